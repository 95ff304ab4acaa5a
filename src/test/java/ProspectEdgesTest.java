import java.math.BigInteger;

/** Promises 14 to 19: a test for each sentence that names an edge, which is quoted above it. */
public final class ProspectEdgesTest {
    private static final Class<IllegalArgumentException> ARGUMENT = IllegalArgumentException.class;
    private static final Class<IndexOutOfBoundsException> INDEX = IndexOutOfBoundsException.class;
    private static final int LEAST = Integer.MIN_VALUE;
    private static final int MOST = Integer.MAX_VALUE;

    public static void main(String[] args) {
        promise14HungryInThem();
        promise14LeastAndMost();
        promise14HoursOutside();
        promise15BehindHowManyHours();
        promise15AtMost480();
        promise15NotByThen();
        promise15WithTheTable();
        promise15NothingIsChanged();
        promise16LeastAndMost();
        promise16OfNothing();
        promise16OfAFullTown();
        promise16WithTheTable();
        promise16NothingIsChanged();
        promise16HoursOutside();
        promise16WhatOutside();
        promise17UpTo90();
        promise17TensOnly();
        promise17NoneAtAll();
        promise17OfSeveralTheLeast();
        promise17InSoManyHours();
        promise17NothingIsChanged();
        promise17NoSuchBaker();
        promise17HoursOutside();
        promise18NoneWasBought();
        promise18Divided();
        promise19OfNothing();
        promise19OfAFullTown();
        promise19WrapsAround();
        promise19NothingIsChanged();
        Check.end();
    }

    // "Returns how often people go hungry in them."
    private static void promise14HungryInThem() {
        LoafMarks x = new LoafMarks();
        Check.same("up to noon", x.pass(12), 0);
        Check.same("noon alone", x.pass(1), 20);
        Check.same("up to the next noon", x.pass(23), 0);
        Check.same("earlier ones do not count", x.pass(1), 20);
        Check.same("two noons", x.pass(48), 40);
        Check.same("count(7) has them all", x.count(7), 80);
    }

    // "hours: how many", 1 to 240
    private static void promise14LeastAndMost() {
        LoafMarks x = new LoafMarks();
        Check.same("pass(1)", x.pass(1), 0);
        Check.same("count(0) behind it", x.count(0), 1);
        Check.same("pass(240)", x.pass(240), 200);
        Check.same("count(0) behind both", x.count(0), 241);
    }

    // "Throws IllegalArgumentException if hours is not 1 to 240"
    private static void promise14HoursOutside() {
        LoafMarks x = TestTown.full();
        for (int hours : new int[] {LEAST, -240, -1, 0, 241, MOST}) {
            Check.refuses(x, "pass(" + hours + ")", ARGUMENT, () -> x.pass(hours));
        }
    }

    // "Returns behind how many hours people go hungry for the first time"
    private static void promise15BehindHowManyHours() {
        LoafMarks x = new LoafMarks();
        for (int hour = 0; hour < 49; hour++) {
            int due = hour < 13 ? 13 - hour : hour < 37 ? 37 - hour : 61 - hour;
            Check.same("lasts() in the hour " + hour, x.lasts(), due);
            x.pass(1);
        }
    }

    /** One person, so many loaves on the shelf and no more to come, in this hour of the day behind noon or at it. */
    private static LoafMarks townWithLoaves(int loaves, int hourOfDay) {
        LoafMarks x = new LoafMarks();
        x.setPeople(0);
        x.open(900, 0);
        for (int left = loaves, baker = 0; left > 0; left -= 18, baker++) {
            x.swear(0, baker, 5, 5 * Math.min(left, 18));
        }
        x.pass(5);
        for (int baker = 0; 18 * baker < loaves; baker++) {
            x.deal(baker, 0);
        }
        x.pass(24 + hourOfDay - 5);
        Check.same("loaves on the shelf", x.count(4), loaves);
        x.setPeople(1);
        return x;
    }

    // "at most 480"
    private static void promise15AtMost480() {
        Check.same("479", townWithLoaves(19, 14).lasts(), 479);
        Check.same("480, the most", townWithLoaves(19, 13).lasts(), 480);
        Check.same("481 is too late", townWithLoaves(20, 12).lasts(), -1);
        Check.same("457 is not", townWithLoaves(19, 12).lasts(), 457);
    }

    // "-1 if they do not by then"
    private static void promise15NotByThen() {
        LoafMarks x = new LoafMarks();
        x.setPeople(0);
        Check.same("without people", x.lasts(), -1);
        LoafMarks y = TestTown.withBaker(900, 10, 10);
        y.setPeople(1);
        y.setGate(1, 99);
        Check.same("one person, one loaf a day", y.lasts(), -1);
        y.setPeople(2);
        Check.same("two people", y.lasts(), 13);
        Check.same("a store that lasts 481 hours and no longer", townWithLoaves(20, 13).lasts(), -1);
    }

    // "if nothing is done": the gate's table stays as it is, and a change of it tells
    private static void promise15WithTheTable() {
        LoafMarks x = TestTown.withBaker(0, 10, 50);
        x.setPeople(5);
        Check.same("the gate is shut", x.lasts(), 13);
        x.setGate(0, 51);
        Check.same("a cart in the hour 0", x.lasts(), -1);
        x.setGate(0, 0);
        x.setGate(23, 99);
        Check.same("a cart in the hour 23 is too late", x.lasts(), 13);
        x.pass(13);
        Check.same("but not for the next day", x.lasts(), -1);
        x.setGate(23, 0);
        Check.same("shut again", x.lasts(), 24);
    }

    // "(nothing is changed)"
    private static void promise15NothingIsChanged() {
        LoafMarks x = TestTown.withBaker(200, 10, 60);
        x.setPeople(6);
        long before = x.digest();
        int first = x.lasts();
        Check.same("three rations of 60, and a small one", first, 3 * 24 + 13);
        Check.same("the digest behind lasts()", x.digest(), before);
        Check.same("lasts() again", x.lasts(), first);
        Check.same("it comes so: no one before", x.pass(first - 1), 0);
        Check.same("it comes so: then", x.pass(1) > 0, true);
    }

    private static void sameAsPassed(LoafMarks x, LoafMarks y, int hours, int stores) {
        int[] told = new int[4];
        for (int what = 0; what < 4; what++) {
            told[what] = x.foresee(hours, what);
        }
        Check.same("foresee(" + hours + ", 0)", told[0], y.pass(hours));
        Check.same("foresee(" + hours + ", 1)", told[1], y.count(3));
        Check.same("foresee(" + hours + ", 2)", told[2], y.count(4));
        int weevils = 0;
        for (int store = 0; store < stores; store++) {
            weevils += y.store(store, 1);
        }
        Check.same("foresee(" + hours + ", 3)", told[3], weevils);
    }

    // "hours: how many, 1 to 240"
    private static void promise16LeastAndMost() {
        for (int hours : new int[] {1, 12, 13, 24, 25, 239, 240}) {
            sameAsPassed(TestTown.full(), TestTown.full(), hours, 4);
        }
        LoafMarks x = TestTown.withBaker(900, 10, 50);
        Check.same("foresee(1, 2): an hour alone", x.foresee(1, 2), 4);
        Check.same("foresee(12, 0): noon is not over", x.foresee(12, 0), 0);
        Check.same("foresee(13, 0): noon is over", x.foresee(13, 0), 15);
    }

    // "0 how often people go hungry in them, 1 flour .., 2 loaves .., 3 weevils ..": of a town without stores
    private static void promise16OfNothing() {
        LoafMarks x = new LoafMarks();
        x.setGate(0, 99);
        int[] due = {200, 0, 0, 0};
        for (int what = 0; what < 4; what++) {
            Check.same("of nothing: foresee(240, " + what + ")", x.foresee(240, what), due[what]);
        }
        x.pass(240);
        for (int what = 0; what < 4; what++) {
            Check.same("earlier hours do not count: " + what, x.foresee(240, what), due[what]);
        }
    }

    // "1 flour of all stores then, .. 3 weevils of all stores then": of four stores
    private static void promise16OfAFullTown() {
        LoafMarks x = TestTown.fullOfStores(900, 50);
        Check.same("foresee(1, 1)", x.foresee(1, 1), 3400);
        Check.same("foresee(1, 3)", x.foresee(1, 3), 200);
        for (int baker = 0; baker < 6; baker++) {
            x.swear(3, baker, 5, 20);
        }
        Check.same("foresee(1, 2)", x.foresee(1, 2), 24);
    }

    // "1 flour of all stores then, .. if nothing is done": with the carts of each hour of the day
    private static void promise16WithTheTable() {
        LoafMarks x = new LoafMarks();
        x.open(0, 0);
        for (int hour = 0; hour < 24; hour++) {
            x.setGate(hour, hour);
        }
        x.pass(1);
        int due = 0;
        for (int hours = 1; hours < 24; hours++) {
            due += hours;
            Check.same("carts of " + hours + " hours", x.foresee(hours, 1), due);
        }
        Check.same("at most 900, up to the hour 23", x.foresee(239, 1), 900);
    }

    // "if nothing is done (nothing is changed)"
    private static void promise16NothingIsChanged() {
        LoafMarks x = TestTown.full();
        long before = x.digest();
        for (int what = 0; what < 4; what++) {
            int first = x.foresee(240, what);
            Check.same("the digest behind foresee(240, " + what + ")", x.digest(), before);
            Check.same("foresee(240, " + what + ") again", x.foresee(240, what), first);
        }
    }

    // "Throws IllegalArgumentException if hours is not 1 to 240"
    private static void promise16HoursOutside() {
        LoafMarks x = TestTown.full();
        for (int hours : new int[] {LEAST, -1, 0, 241, MOST}) {
            for (int what = 0; what < 4; what++) {
                int asked = what;
                Check.refuses(x, "foresee(" + hours + ", " + what + ")", ARGUMENT, () -> x.foresee(hours, asked));
            }
        }
    }

    // "Throws IndexOutOfBoundsException if what is not 0 to 3"
    private static void promise16WhatOutside() {
        LoafMarks x = TestTown.full();
        for (int what : new int[] {LEAST, -1, 4, MOST}) {
            Check.refuses(x, "foresee(1, " + what + ")", INDEX, () -> x.foresee(1, what));
            Check.refuses(x, "foresee(240, " + what + ")", INDEX, () -> x.foresee(240, what));
        }
    }

    // "one of 0, 10, 20 and so on up to 90"
    private static void promise17UpTo90() {
        LoafMarks x = TestTown.withBaker(900, 10, 0);
        int[] due = {0, 10, 20, 30, 40, 50, 60, 70, 80, 90, 90, 90};
        for (int people = 0; people < due.length; people++) {
            x.setPeople(people);
            Check.same("people " + people + ": advise(0, 13)", x.advise(0, 13), due[people]);
        }
    }

    // "one of 0, 10, 20 and so on"
    private static void promise17TensOnly() {
        LoafMarks x = TestTown.withBaker(900, 9, 27);
        x.setPeople(3);
        Check.same("27 is enough, but no such ration", x.advise(0, 13), 30);
        x.deal(0, 85);
        x.setPeople(9);
        Check.same("81 is enough, but no such ration", x.advise(0, 13), 90);
    }

    // "one of 0, 10": 0 is none at all, whatever the ration is
    private static void promise17NoneAtAll() {
        LoafMarks x = TestTown.withBaker(900, 10, 9);
        x.setPeople(1);
        x.pass(13);
        Check.same("9 are at hand", x.baker(0, 3), 9);
        Check.same("0 makes no loaf of them", x.advise(0, 24), 10);
        LoafMarks y = TestTown.withBaker(60, 12, 60);
        y.swear(0, 1, 5, 60);
        Check.same("the next one makes more of the flour", y.advise(0, 13), 0);
        LoafMarks z = TestTown.withBaker(900, 5, 70);
        z.setPeople(3);
        z.pass(1);
        z.weigh(0);
        z.pass(23);
        z.pardon(0);
        z.setPeople(5);
        Check.same("50 are at hand, and the shelf is empty", z.baker(0, 3) + z.baker(0, 5), 50);
        Check.same("0 takes nothing of what is at hand", z.advise(0, 13), 0);
    }

    // "of several the least"
    private static void promise17OfSeveralTheLeast() {
        LoafMarks x = TestTown.withBaker(900, 10, 90);
        x.setPeople(0);
        Check.same("all are alike", x.advise(0, 96), 0);
        x.setPeople(4);
        Check.same("40 and more are alike", x.advise(0, 96), 40);
        LoafMarks y = TestTown.withBaker(34, 10, 90);
        Check.same("an empty store gives no more: 30 and more are alike", y.advise(0, 24), 30);
        LoafMarks z = TestTown.withBaker(900, 9, 90);
        z.pass(1);
        z.weigh(0);
        Check.same("barred: all are alike", z.advise(0, 96), 0);
    }

    // "so that people go hungry least often in so many hours", 1 to 96
    private static void promise17InSoManyHours() {
        LoafMarks x = TestTown.withBaker(100, 10, 90);
        x.setPeople(4);
        Check.same("in an hour: any is good", x.advise(0, 1), 0);
        Check.same("up to noon: any is good", x.advise(0, 12), 0);
        Check.same("through noon", x.advise(0, 13), 40);
        Check.same("through two noons", x.advise(0, 37), 40);
        LoafMarks y = TestTown.withBaker(900, 10, 0);
        y.pass(13);
        Check.same("the fourth noon is in 96 hours", y.advise(0, 96), 90);
        Check.same("the next noon is not in 23 hours", y.advise(0, 23), 0);
        Check.same("it is in 24", y.advise(0, 24), 90);
        LoafMarks z = TestTown.withBaker(900, 10, 0);
        z.setGate(0, 99);
        z.pass(16);
        z.swear(0, 1, 10, 90);
        z.setPeople(9);
        Check.same("another one bakes enough", z.advise(0, 96), 0);
        z.setPeople(10);
        Check.same("one loaf a day is wanted", z.advise(0, 96), 10);
    }

    // "(nothing is changed)"
    private static void promise17NothingIsChanged() {
        LoafMarks x = TestTown.full();
        long before = x.digest();
        for (int baker = 0; baker < 6; baker++) {
            int first = x.advise(baker, 96);
            Check.same("the digest behind advise(" + baker + ", 96)", x.digest(), before);
            Check.same("the ration stays", x.baker(baker, 2), 40 + baker);
            Check.same("advise(" + baker + ", 96) again", x.advise(baker, 96), first);
        }
    }

    // "Throws IndexOutOfBoundsException if there is no such baker"
    private static void promise17NoSuchBaker() {
        LoafMarks x = TestTown.withBaker(900, 9, 90);
        for (int baker : new int[] {LEAST, -1, 1, 5, 6, MOST}) {
            Check.refuses(x, "advise(" + baker + ", 1)", INDEX, () -> x.advise(baker, 1));
            Check.refuses(x, "advise(" + baker + ", 0)", INDEX, () -> x.advise(baker, 0));
        }
    }

    // "Throws IllegalArgumentException if hours is not 1 to 96"
    private static void promise17HoursOutside() {
        LoafMarks x = TestTown.full();
        for (int hours : new int[] {LEAST, -1, 0, 97, 240, MOST}) {
            Check.refuses(x, "advise(0, " + hours + ")", ARGUMENT, () -> x.advise(0, hours));
            Check.refuses(x, "advise(5, " + hours + ")", ARGUMENT, () -> x.advise(5, hours));
        }
    }

    // "0 if none was"
    private static void promise18NoneWasBought() {
        LoafMarks x = TestTown.withBaker(900, 5, 90);
        Check.same("share() at first", x.share(), 0.0);
        x.pass(12);
        Check.same("share() before noon", x.share(), 0.0);
        x.setPeople(0);
        x.pass(1);
        Check.same("share() where nobody bought", x.share(), 0.0);
        Check.same("share() is no negative 0", 1.0 / x.share() > 0.0, true);
    }

    // "Returns light loaves, divided by all that were bought"
    private static void promise18Divided() {
        LoafMarks x = TestTown.withBaker(900, 10, 90);
        x.pass(13);
        Check.same("share() without light ones", x.share(), 0.0);
        LoafMarks y = TestTown.withBaker(900, 9, 90);
        y.pass(13);
        Check.same("share() of light ones alone", y.share(), 1.0);
        LoafMarks z = TestTown.withBaker(900, 9, 9);
        z.swear(0, 1, 12, 24);
        z.pass(13);
        Check.same("share() of 1 in 3, which is not cut", z.share(), 1.0 / 3.0);
    }

    /** The checksum of these numbers, cut to 64 bits at the end alone. */
    private static long checksum(int[] numbers, int many) {
        BigInteger d = BigInteger.valueOf(1051);
        for (int i = 0; i < many; i++) {
            d = d.multiply(BigInteger.valueOf(31)).add(BigInteger.valueOf(numbers[i]));
        }
        return d.longValue();
    }

    private static long checksumOf(LoafMarks x, int[] table, int stores, int bakers) {
        int[] numbers = new int[10 + 24 + 4 * stores + 8 * bakers];
        int many = 0;
        for (int what = 0; what < 10; what++) {
            numbers[many++] = x.count(what);
        }
        for (int hour = 0; hour < 24; hour++) {
            numbers[many++] = table[hour];
        }
        for (int i = 0; i < 4 * stores; i++) {
            numbers[many++] = x.store(i / 4, i % 4);
        }
        for (int i = 0; i < 8 * bakers; i++) {
            numbers[many++] = x.baker(i / 8, i % 8);
        }
        return checksum(numbers, many);
    }

    // "for each store .., for each baker ..": of a town without
    private static void promise19OfNothing() {
        LoafMarks x = new LoafMarks();
        Check.same("digest() of nothing", x.digest(), checksumOf(x, new int[24], 0, 0));
        x.open(0, 0);
        Check.same("digest() of an empty store", x.digest(), checksumOf(x, new int[24], 1, 0));
        x.swear(0, 0, 5, 0);
        Check.same("digest() of a baker with the least", x.digest(), checksumOf(x, new int[24], 1, 1));
    }

    // "for each store .., for each baker ..": of four stores and six bakers
    private static void promise19OfAFullTown() {
        LoafMarks x = TestTown.full();
        int[] table = new int[24];
        for (int hour = 0; hour < 24; hour++) {
            table[hour] = 99 - hour;
            x.setGate(hour, table[hour]);
        }
        for (int i = 0; i < 10; i++) {
            Check.same("digest() of a full town", x.digest(), checksumOf(x, table, 4, 6));
            x.pass(7 * i + 1);
        }
    }

    // "which wraps around as a 64-bit integer"
    private static void promise19WrapsAround() {
        int[] numbers = new int[34];
        numbers[2] = 20;
        Check.same("digest() of a new town", new LoafMarks().digest(), checksum(numbers, 34));
        BigInteger d = BigInteger.valueOf(1051).multiply(BigInteger.valueOf(31).pow(34));
        Check.same("which is far beyond 64 bits", d.bitLength() > 128, true);
        numbers[2] = 500;
        LoafMarks x = new LoafMarks();
        x.setPeople(500);
        Check.same("digest() of 500 people", x.digest(), checksum(numbers, 34));
    }

    // "Computes a checksum"
    private static void promise19NothingIsChanged() {
        LoafMarks x = TestTown.full();
        long before = x.digest();
        for (int i = 0; i < 5; i++) {
            Check.same("digest() again", x.digest(), before);
        }
    }
}
