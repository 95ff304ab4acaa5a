/** Promises 10 to 13, and 18 and 19. */
public final class WhatIsThereTest {
    private static final Class<IllegalArgumentException> ARGUMENT = IllegalArgumentException.class;
    private static final Class<IndexOutOfBoundsException> INDEX = IndexOutOfBoundsException.class;

    public static void main(String[] args) {
        promise10Store();
        promise11Baker();
        promise12Whose();
        promise13Count();
        promise18Share();
        promise19Digest();
        Check.end();
    }

    private static LoafMarks townOfThreeBakers() {
        LoafMarks x = new LoafMarks();
        x.open(300, 8);
        x.open(895, 3);
        x.swear(1, 4, 9, 50);
        x.swear(0, 11, 12, 90);
        x.swear(1, 0, 10, 33);
        x.setGate(0, 10);
        x.setGate(1, 99);
        return x;
    }

    private static void promise10Store() {
        LoafMarks x = townOfThreeBakers();
        x.pass(1);
        int[][] due = {{300 + 10 - 90 - 8, 8 + 2 + 1, 1, 8}, {895 - 83 - 3, 3 + 1, 2, 3}};
        for (int store = 0; store < 2; store++) {
            for (int what = 0; what < 4; what++) {
                Check.same("store(" + store + ", " + what + ")", x.store(store, what), due[store][what]);
            }
        }
        Check.refuses(x, "store(-1, 0)", INDEX, () -> x.store(-1, 0));
        Check.refuses(x, "store(2, 0)", INDEX, () -> x.store(2, 0));
        Check.refuses(x, "store(4, 0)", INDEX, () -> x.store(4, 0));
        Check.refuses(x, "store(0, -1)", INDEX, () -> x.store(0, -1));
        Check.refuses(x, "store(0, 4)", INDEX, () -> x.store(0, 4));
    }

    private static void promise11Baker() {
        LoafMarks x = townOfThreeBakers();
        x.pass(13);
        int[][] due = {{1, 4, 50, 5, 9, 0, 5, 0}, {0, 11, 90, 6, 12, 0, 7, 0}, {1, 0, 33, 3, 10, 0, 3, 0}};
        for (int baker = 0; baker < 3; baker++) {
            for (int what = 0; what < 8; what++) {
                Check.same("baker(" + baker + ", " + what + ")", x.baker(baker, what), due[baker][what]);
            }
        }
        Check.refuses(x, "baker(-1, 0)", INDEX, () -> x.baker(-1, 0));
        Check.refuses(x, "baker(3, 0)", INDEX, () -> x.baker(3, 0));
        Check.refuses(x, "baker(6, 0)", INDEX, () -> x.baker(6, 0));
        Check.refuses(x, "baker(0, -1)", INDEX, () -> x.baker(0, -1));
        Check.refuses(x, "baker(0, 8)", INDEX, () -> x.baker(0, 8));
    }

    private static void promise12Whose() {
        LoafMarks x = townOfThreeBakers();
        x.swear(0, 25, 10, 0);
        Check.same("whose(4)", x.whose(4), 0);
        Check.same("whose(11)", x.whose(11), 1);
        Check.same("whose(0)", x.whose(0), 2);
        Check.same("whose(25)", x.whose(25), 3);
        Check.same("whose(1)", x.whose(1), -1);
        Check.refuses(x, "whose(-1)", ARGUMENT, () -> x.whose(-1));
        Check.refuses(x, "whose(26)", ARGUMENT, () -> x.whose(26));
    }

    private static void promise13Count() {
        LoafMarks x = townOfThreeBakers();
        x.setGate(5, 99);
        for (int hour = 6; hour < 16; hour++) {
            x.setGate(hour, 99);
        }
        x.pass(2);
        x.weigh(0);
        int[] early = {2, 2, 20, (300 + 10 - 90 - 8 + 99) + (895 - 83 - 3), 4 + 7 + 3, 0, 0, 0, 1, 0};
        for (int what = 0; what < 10; what++) {
            Check.same("at 2: count(" + what + ")", x.count(what), early[what]);
        }
        x.pass(26);
        // The carts of the hours 5 to 15 fill both stores, so that the cart of the next hour 0 is lost whole.
        Check.same("count(0)", x.count(0), 28);
        Check.same("count(1)", x.count(1), 4);
        Check.same("count(2)", x.count(2), 20);
        Check.same("count(5)", x.count(5), 4 + 7 + 3);
        Check.same("count(6)", x.count(6), 4);
        Check.same("count(7)", x.count(7), 6);
        Check.same("count(8)", x.count(8), 1);
        Check.same("count(9)", x.count(9), (311 + 809 + 11 * 99 - 1800) + 10);
        Check.same("count(4)", x.count(4), 8 + 3);
        Check.same("count(3)", x.count(3), (900 - 90 - 11) + 99 + (900 - 33 - 4));
        Check.refuses(x, "count(-1)", INDEX, () -> x.count(-1));
        Check.refuses(x, "count(10)", INDEX, () -> x.count(10));
    }

    private static void promise18Share() {
        LoafMarks x = new LoafMarks();
        Check.same("share() of a new town", x.share(), 0.0);
        x.pass(13);
        Check.same("share() where none was bought", x.share(), 0.0);
        LoafMarks y = townOfThreeBakers();
        y.pass(13);
        Check.same("share() of 5 light loaves in 15", y.share(), 5.0 / 15.0);
        LoafMarks z = new LoafMarks();
        z.open(100, 0);
        z.swear(0, 0, 5, 90);
        z.pass(13);
        Check.same("share() of light loaves alone", z.share(), 1.0);
    }

    private static void promise19Digest() {
        long d = 1051L;
        for (int i = 0; i < 34; i++) {
            d = d * 31 + (i == 2 ? 20 : 0);
        }
        Check.same("digest() of a new town", new LoafMarks().digest(), d);
        LoafMarks x = townOfThreeBakers();
        x.pass(100);
        x.weigh(0);
        long e = 1051L;
        for (int what = 0; what < 10; what++) {
            e = e * 31 + x.count(what);
        }
        for (int hour = 0; hour < 24; hour++) {
            e = e * 31 + (hour == 0 ? 10 : hour == 1 ? 99 : 0);
        }
        for (int i = 0; i < 8; i++) {
            e = e * 31 + x.store(i / 4, i % 4);
        }
        for (int i = 0; i < 24; i++) {
            e = e * 31 + x.baker(i / 8, i % 8);
        }
        Check.same("digest()", x.digest(), e);
        Check.same("digest() again", x.digest(), e);
    }
}
