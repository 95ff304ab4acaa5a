/** All promises: runs of 512 calls, always the same ones, answered by the program and by PlainTown. */
public final class LongRunsTest {
    private static final int RUNS = 400;
    private static final int CALLS = 512;
    private static final int[] ODD = {Integer.MIN_VALUE, -241, -1, 0, 1, 2, 4, 6, 10, 24, 26, 96, 97, 240, 241, 501,
        901, Integer.MAX_VALUE};
    // The least and the most of each argument of each call, in the order of the face.
    private static final int[][] SPANS = {
        {0, 500}, {0, 23, 0, 99}, {0, 900, 0, 50}, {0, 3}, {0, 3, 0, 25, 5, 12, 0, 90}, {0, 5, 0, 90}, {0, 5}, {0, 5},
        {0, 3, 0, 3}, {0, 5, 0, 7}, {0, 25}, {0, 9}, {1, 240}, {}, {1, 240, 0, 3}, {0, 5, 1, 96}, {}, {}};

    private static long seed;

    public static void main(String[] args) {
        int[] answered = new int[SPANS.length];
        for (int run = 0; run < RUNS; run++) {
            seed = run * 7919L + 1;
            LoafMarks x = new LoafMarks();
            PlainTown y = new PlainTown();
            for (int i = 0; i < CALLS; i++) {
                int call = next(SPANS.length);
                int[] a = arguments(call, run);
                String got = answer(x, call, a[0], a[1], a[2], a[3]);
                String due = y.answer(call, a[0], a[1], a[2], a[3]);
                answered[call] += due.startsWith("throws") ? 0 : 1;
                Check.same("run " + run + ", row " + i + ": call " + call + " of " + a[0] + ", " + a[1] + ", " + a[2]
                    + ", " + a[3], got, due);
            }
            Check.same("run " + run + ": the last digest", "" + x.digest(), y.answer(17, 0, 0, 0, 0));
        }
        for (int call = 0; call < answered.length; call++) {
            Check.same("call " + call + " is answered in some run", answered[call] > 0, true);
        }
        Check.end();
    }

    private static int next(int bound) {
        seed = seed * 6364136223846793005L + 1442695040888963407L;
        return (int) ((seed >>> 33) % bound);
    }

    private static int[] arguments(int call, int run) {
        int[] span = SPANS[call];
        int[] a = new int[4];
        for (int i = 0; i + i < span.length; i++) {
            int least = span[i + i];
            int most = span[i + i + 1];
            // Small numbers let a town with few people and short leaps live longer.
            boolean small = most > 90 && run % 2 == 0 && next(4) > 0;
            a[i] = least + next((small ? most / 8 : most) - least + 1);
            if (next(40) == 0) {
                a[i] = next(2) == 0 ? (next(2) == 0 ? least - 1 : most + 1) : ODD[next(ODD.length)];
            } else if (next(20) == 0) {
                a[i] = next(2) == 0 ? least : most;
            }
        }
        return a;
    }

    private static String answer(LoafMarks x, int call, int a, int b, int c, int d) {
        try {
            switch (call) {
                case 0: return "" + x.setPeople(a);
                case 1: return "" + x.setGate(a, b);
                case 2: return "" + x.open(a, b);
                case 3: return "" + x.smoke(a);
                case 4: return "" + x.swear(a, b, c, d);
                case 5: return "" + x.deal(a, b);
                case 6: return "" + x.weigh(a);
                case 7: return "" + x.pardon(a);
                case 8: return "" + x.store(a, b);
                case 9: return "" + x.baker(a, b);
                case 10: return "" + x.whose(a);
                case 11: return "" + x.count(a);
                case 12: return "" + x.pass(a);
                case 13: return "" + x.lasts();
                case 14: return "" + x.foresee(a, b);
                case 15: return "" + x.advise(a, b);
                case 16: return "" + x.share();
                default: return "" + x.digest();
            }
        } catch (RuntimeException e) {
            return "throws." + e.getClass().getSimpleName();
        }
    }
}
