import java.util.ArrayList;
import java.util.List;

/** The document once more, written apart from the program: each call answers by a text. */
final class PlainTown {
    private static final String ARGUMENT = "throws.IllegalArgumentException";
    private static final String STATE = "throws.IllegalStateException";
    private static final String INDEX = "throws.IndexOutOfBoundsException";

    private long hour = 0;
    private int people = 20;
    private final int[] table = new int[24];
    // A store: flour, weevils, eaten.
    private final List<int[]> stores = new ArrayList<>();
    // A baker: what baker() tells, in its order.
    private final List<int[]> bakers = new ArrayList<>();
    private int bought = 0;
    private int light = 0;
    private int hungry = 0;
    private int lost = 0;

    private PlainTown copy() {
        PlainTown c = new PlainTown();
        c.hour = hour;
        c.people = people;
        System.arraycopy(table, 0, c.table, 0, 24);
        for (int[] s : stores) {
            c.stores.add(s.clone());
        }
        for (int[] b : bakers) {
            c.bakers.add(b.clone());
        }
        c.bought = bought;
        c.light = light;
        c.hungry = hungry;
        c.lost = lost;
        return c;
    }

    private void anHour() {
        int h = (int) (hour % 24);
        if (!stores.isEmpty()) {
            int[] least = stores.get(0);
            for (int[] s : stores) {
                if (s[0] < least[0]) {
                    least = s;
                }
            }
            for (int i = 0; i < table[h]; i++) {
                if (least[0] < 900) {
                    least[0]++;
                } else {
                    lost++;
                }
            }
        }
        if (h == 0) {
            for (int[] b : bakers) {
                for (int i = 0; i < b[2] && b[7] == 0 && stores.get(b[0])[0] > 0; i++) {
                    stores.get(b[0])[0]--;
                    b[3]++;
                }
            }
            for (int[] s : stores) {
                for (int i = 0; i < s[1] && s[0] > 0; i++) {
                    s[0]--;
                    s[2]++;
                }
                s[1] = s[0] == 0 ? s[1] / 2 : s[1] + s[1] / 4 + 1;
                s[1] = s[1] > 50 ? 50 : s[1];
            }
        }
        for (int[] b : bakers) {
            for (int i = 0; i < 4 && b[7] == 0 && b[3] >= b[4]; i++) {
                b[3] -= b[4];
                b[5]++;
            }
        }
        if (h == 12) {
            for (int i = 0; i < people; i++) {
                buyOne();
            }
        }
        hour++;
    }

    private void buyOne() {
        for (int[] b : bakers) {
            if (b[5] > 0) {
                b[5]--;
                b[6]++;
                bought++;
                light += b[4] < 10 ? 1 : 0;
                return;
            }
        }
        hungry++;
    }

    private int hungryIn(int hours) {
        int before = hungry;
        for (int i = 0; i < hours; i++) {
            anHour();
        }
        return hungry - before;
    }

    private static boolean out(int x, int least, int most) {
        return x < least || x > most;
    }

    private boolean noStore(int store) {
        return out(store, 0, stores.size() - 1);
    }

    private boolean noBaker(int baker) {
        return out(baker, 0, bakers.size() - 1);
    }

    private int sum(List<int[]> rows, int column) {
        int sum = 0;
        for (int[] row : rows) {
            sum += row[column];
        }
        return sum;
    }

    private int owner(int mark) {
        for (int i = 0; i < bakers.size(); i++) {
            if (bakers.get(i)[1] == mark) {
                return i;
            }
        }
        return -1;
    }

    private long count(int what) {
        long[] told = {hour, hour % 24, people, sum(stores, 0), sum(bakers, 5), bought, light, hungry,
            sum(bakers, 7), lost};
        return told[what];
    }

    private int store(int store, int what) {
        int mine = 0;
        for (int[] b : bakers) {
            mine += b[0] == store ? 1 : 0;
        }
        int[] s = stores.get(store);
        int[] told = {s[0], s[1], mine, s[2]};
        return told[what];
    }

    /** The answer to the call with this number, in the order of the face, with these arguments. */
    String answer(int call, int a, int b, int c, int d) {
        switch (call) {
            case 0:
            case 1:
            case 2:
            case 3:
                return answerOfTown(call, a, b);
            case 4:
            case 5:
            case 6:
            case 7:
                return answerOfBakers(call, a, b, c, d);
            case 8:
                return noStore(a) || out(b, 0, 3) ? INDEX : "" + store(a, b);
            case 9:
                return noBaker(a) || out(b, 0, 7) ? INDEX : "" + bakers.get(a)[b];
            case 10:
                return out(a, 0, 25) ? ARGUMENT : "" + owner(a);
            case 11:
                return out(a, 0, 9) ? INDEX : "" + count(a);
            case 12:
                return out(a, 1, 240) ? ARGUMENT : "" + hungryIn(a);
            default:
                return answerOfWhatWouldBe(call, a, b);
        }
    }

    private String answerOfTown(int call, int a, int b) {
        int before;
        switch (call) {
            case 0:
                if (out(a, 0, 500)) {
                    return ARGUMENT;
                }
                before = people;
                people = a;
                return "" + before;
            case 1:
                if (out(a, 0, 23)) {
                    return INDEX;
                }
                if (out(b, 0, 99)) {
                    return ARGUMENT;
                }
                before = table[a];
                table[a] = b;
                return "" + before;
            case 2:
                if (out(a, 0, 900) || out(b, 0, 50)) {
                    return ARGUMENT;
                }
                if (stores.size() == 4) {
                    return STATE;
                }
                stores.add(new int[] {a, b, 0});
                return "" + (stores.size() - 1);
            default:
                if (noStore(a)) {
                    return INDEX;
                }
                before = stores.get(a)[1];
                stores.get(a)[1] = 0;
                stores.get(a)[0] -= stores.get(a)[0] / 10;
                return "" + before;
        }
    }

    private String answerOfBakers(int call, int a, int b, int c, int d) {
        if (call == 4 ? noStore(a) : noBaker(a)) {
            return INDEX;
        }
        switch (call) {
            case 4:
                if (out(b, 0, 25) || out(c, 5, 12) || out(d, 0, 90)) {
                    return ARGUMENT;
                }
                if (bakers.size() == 6 || owner(b) != -1) {
                    return STATE;
                }
                bakers.add(new int[] {a, b, d, 0, c, 0, 0, 0});
                return "" + (bakers.size() - 1);
            case 5:
                if (out(b, 0, 90)) {
                    return ARGUMENT;
                }
                int ration = bakers.get(a)[2];
                bakers.get(a)[2] = b;
                return "" + ration;
            case 6:
                if (bakers.get(a)[5] == 0) {
                    return STATE;
                }
                bakers.get(a)[5]--;
                if (bakers.get(a)[4] < 10) {
                    bakers.get(a)[7] = 1;
                }
                return "" + bakers.get(a)[4];
            default:
                boolean barred = bakers.get(a)[7] == 1;
                bakers.get(a)[7] = 0;
                if (bakers.get(a)[4] < 10) {
                    bakers.get(a)[4] = 10;
                }
                return "" + barred;
        }
    }

    private String answerOfWhatWouldBe(int call, int a, int b) {
        PlainTown c = copy();
        switch (call) {
            case 13:
                for (int i = 1; i <= 480; i++) {
                    if (c.hungryIn(1) > 0) {
                        return "" + i;
                    }
                }
                return "-1";
            case 14:
                if (out(a, 1, 240)) {
                    return ARGUMENT;
                }
                if (out(b, 0, 3)) {
                    return INDEX;
                }
                int[] told = {c.hungryIn(a), c.sum(c.stores, 0), c.sum(c.bakers, 5), c.sum(c.stores, 1)};
                return "" + told[b];
            case 15:
                return noBaker(a) ? INDEX : out(b, 1, 96) ? ARGUMENT : "" + best(a, b);
            case 16:
                return "" + (bought == 0 ? 0.0 : (double) light / bought);
            default:
                return "" + digest();
        }
    }

    private int best(int baker, int hours) {
        int[] hungryOf = new int[10];
        int best = 9;
        for (int i = 9; i >= 0; i--) {
            PlainTown c = copy();
            c.bakers.get(baker)[2] = 10 * i;
            hungryOf[i] = c.hungryIn(hours);
            best = hungryOf[i] <= hungryOf[best] ? i : best;
        }
        return 10 * best;
    }

    private long digest() {
        List<Long> numbers = new ArrayList<>();
        for (int what = 0; what < 10; what++) {
            numbers.add(count(what));
        }
        for (int flour : table) {
            numbers.add((long) flour);
        }
        for (int i = 0; i < stores.size() * 4; i++) {
            numbers.add((long) store(i / 4, i % 4));
        }
        for (int[] b : bakers) {
            for (int fact : b) {
                numbers.add((long) fact);
            }
        }
        long d = 1051;
        for (long x : numbers) {
            d = d * 31 + x;
        }
        return d;
    }
}
