/** Promises 15 to 17. */
public final class WhatWouldBeTest {
    private static final Class<IllegalArgumentException> ARGUMENT = IllegalArgumentException.class;
    private static final Class<IndexOutOfBoundsException> INDEX = IndexOutOfBoundsException.class;

    public static void main(String[] args) {
        promise15Lasts();
        promise15LastsAtMost480();
        promise16Foresee();
        promise16ForeseeRefuses();
        promise17Advise();
        promise17AdviseOfSeveral();
        promise17AdviseRefuses();
        nothingIsChanged();
        Check.end();
    }

    private static void promise15Lasts() {
        LoafMarks x = new LoafMarks();
        Check.same("lasts() of a new town", x.lasts(), 13);
        x.pass(12);
        Check.same("lasts() at noon", x.lasts(), 1);
        x.pass(1);
        Check.same("lasts() behind noon", x.lasts(), 24);
        x.setPeople(0);
        Check.same("lasts() without people", x.lasts(), -1);

        LoafMarks y = new LoafMarks();
        y.open(100, 0);
        y.swear(0, 0, 10, 50);
        y.setPeople(5);
        // Two rations of 50 empty it, so that the third noon is the first without bread.
        Check.same("lasts() of a store of 100", y.lasts(), 24 * 2 + 13);
    }

    /** A town with one buyer, so many loaves on the shelves, no more to come, and noon in so many hours. */
    private static LoafMarks townWithLoaves(int loaves, int hoursToNoon) {
        LoafMarks x = new LoafMarks();
        x.setPeople(0);
        x.open(900, 0);
        x.swear(0, 0, 10, loaves * 10 % 90);
        x.swear(0, 1, 10, 90);
        x.swear(0, 2, 10, 90);
        x.pass(4);
        for (int baker = 0; baker < 3; baker++) {
            x.deal(baker, 0);
        }
        x.pass(8 + 24 + 24 - hoursToNoon);
        Check.same("loaves on the shelves", x.count(4), loaves);
        x.setPeople(1);
        return x;
    }

    private static void promise15LastsAtMost480() {
        // 19 loaves last for 19 noons; the 20th is 456 hours behind the first.
        Check.same("lasts() 457", townWithLoaves(19, 0).lasts(), 457);
        Check.same("lasts() 480", townWithLoaves(19, 23).lasts(), 480);
        Check.same("lasts() -1, as 481 is too late", townWithLoaves(20, 0).lasts(), -1);
    }

    private static void promise16Foresee() {
        LoafMarks x = new LoafMarks();
        x.open(500, 12);
        x.open(300, 50);
        x.swear(1, 7, 8, 83);
        x.swear(0, 8, 11, 47);
        x.setGate(0, 9);
        x.setGate(9, 44);
        x.setGate(23, 99);
        int[] hours = {1, 12, 13, 24, 25, 100, 240};
        for (int h : hours) {
            int[] told = new int[4];
            for (int what = 0; what < 4; what++) {
                told[what] = x.foresee(h, what);
            }
            LoafMarks y = new LoafMarks();
            y.open(500, 12);
            y.open(300, 50);
            y.swear(1, 7, 8, 83);
            y.swear(0, 8, 11, 47);
            y.setGate(0, 9);
            y.setGate(9, 44);
            y.setGate(23, 99);
            Check.same("foresee(" + h + ", 0)", told[0], y.pass(h));
            Check.same("foresee(" + h + ", 1)", told[1], y.count(3));
            Check.same("foresee(" + h + ", 2)", told[2], y.count(4));
            Check.same("foresee(" + h + ", 3)", told[3], y.store(0, 1) + y.store(1, 1));
        }
        x.pass(13);
        Check.same("those of earlier hours do not count", x.foresee(23, 0), 0);
    }

    private static void promise16ForeseeRefuses() {
        LoafMarks x = new LoafMarks();
        Check.refuses(x, "foresee(0, 0)", ARGUMENT, () -> x.foresee(0, 0));
        Check.refuses(x, "foresee(241, 0)", ARGUMENT, () -> x.foresee(241, 0));
        Check.refuses(x, "foresee(0, 4)", ARGUMENT, () -> x.foresee(0, 4));
        Check.refuses(x, "foresee(1, -1)", INDEX, () -> x.foresee(1, -1));
        Check.refuses(x, "foresee(1, 4)", INDEX, () -> x.foresee(1, 4));
        Check.same("foresee(240, 0)", x.foresee(240, 0), 200);
    }

    private static void promise17Advise() {
        LoafMarks x = new LoafMarks();
        x.open(900, 0);
        x.swear(0, 0, 10, 0);
        x.setPeople(4);
        Check.same("enough for 4", x.advise(0, 24), 40);
        x.setPeople(9);
        Check.same("enough for 9", x.advise(0, 24), 90);
        Check.same("advise(0, 96)", x.advise(0, 96), 90);
        Check.same("before noon any is good", x.advise(0, 12), 0);
        Check.same("through noon", x.advise(0, 13), 90);
        x.setPeople(3);
        Check.same("4 noons of 3", x.advise(0, 96), 30);
        Check.same("the ration stays", x.baker(0, 2), 0);

        LoafMarks y = new LoafMarks();
        y.open(60, 0);
        y.swear(0, 0, 12, 60);
        y.swear(0, 1, 5, 60);
        Check.same("leave it to the one who bakes light", y.advise(0, 13), 0);
        Check.same("who is behind the first", y.advise(1, 13), 0);

        LoafMarks z = new LoafMarks();
        z.open(900, 0);
        z.swear(0, 0, 10, 9);
        z.setPeople(1);
        z.pass(13);
        Check.same("9 at hand are not enough without a ration", z.advise(0, 24), 10);
        z.deal(0, 1);
        z.pass(24);
        Check.same("what is tried is not added to the ration", z.advise(0, 24), 10);
    }

    private static void promise17AdviseOfSeveral() {
        LoafMarks x = new LoafMarks();
        x.open(900, 0);
        x.swear(0, 0, 9, 90);
        x.setPeople(0);
        Check.same("nobody can be hungry", x.advise(0, 96), 0);
        x.setPeople(10);
        x.pass(1);
        x.weigh(0);
        Check.same("barred: all are alike", x.advise(0, 96), 0);
        x.pardon(0);
        x.deal(0, 85);
        Check.same("not barred", x.advise(0, 96), 90);
    }

    private static void promise17AdviseRefuses() {
        LoafMarks x = new LoafMarks();
        Check.refuses(x, "advise(0, 0) without bakers", INDEX, () -> x.advise(0, 0));
        x.open(900, 0);
        x.swear(0, 0, 9, 90);
        Check.refuses(x, "advise(-1, 1)", INDEX, () -> x.advise(-1, 1));
        Check.refuses(x, "advise(1, 1)", INDEX, () -> x.advise(1, 1));
        Check.refuses(x, "advise(1, 97)", INDEX, () -> x.advise(1, 97));
        Check.refuses(x, "advise(0, 0)", ARGUMENT, () -> x.advise(0, 0));
        Check.refuses(x, "advise(0, 97)", ARGUMENT, () -> x.advise(0, 97));
        Check.same("advise(0, 1)", x.advise(0, 1), 0);
    }

    private static void nothingIsChanged() {
        LoafMarks x = new LoafMarks();
        x.open(500, 12);
        x.swear(0, 7, 8, 83);
        x.setGate(9, 44);
        x.pass(5);
        long before = x.digest();
        x.lasts();
        Check.same("digest() behind lasts", x.digest(), before);
        x.foresee(200, 0);
        Check.same("digest() behind foresee", x.digest(), before);
        x.advise(0, 96);
        Check.same("digest() behind advise", x.digest(), before);
    }
}
