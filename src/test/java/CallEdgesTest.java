/** Promises 1 to 13: a test for each sentence that names an edge, which is quoted above it. */
public final class CallEdgesTest {
    private static final Class<IllegalArgumentException> ARGUMENT = IllegalArgumentException.class;
    private static final Class<IllegalStateException> STATE = IllegalStateException.class;
    private static final Class<IndexOutOfBoundsException> INDEX = IndexOutOfBoundsException.class;
    private static final int LEAST = Integer.MIN_VALUE;
    private static final int MOST = Integer.MAX_VALUE;

    public static void main(String[] args) {
        promise1WithoutStoresAndBakers();
        promise1InTheHour0();
        promise2HowManyThereWere();
        promise2PeopleOutside();
        promise3WhatTheyBroughtBefore();
        promise3HourOutside();
        promise3FlourOutside();
        promise4ItsNumber();
        promise4FlourOutside();
        promise4WeevilsOutside();
        promise4ThereAreFour();
        promise5NoneThen();
        promise5ATenthCut();
        promise5TheWeevilsThatItHad();
        promise5NoSuchStore();
        promise6TheNumber();
        promise6NoSuchStore();
        promise6MarkOutside();
        promise6WeightOutside();
        promise6RationOutside();
        promise6ThereAreSix();
        promise6AnotherOneHasTheMark();
        promise7TheRationBefore();
        promise7FromNowOn();
        promise7NoSuchBaker();
        promise7RationOutside();
        promise8BarredIfLessThan10();
        promise8TheLoafIsGone();
        promise8ItsWeight();
        promise8OfOneWhoIsBarred();
        promise8NoSuchBaker();
        promise8NoLoaf();
        promise9AWeightOf10IfItWasLess();
        promise9AlsoThoseOnTheShelf();
        promise9WhetherThisOneWasBarred();
        promise9NoSuchBaker();
        promise10StoreOfNothing();
        promise10BakersWhoAreBarred();
        promise10NoSuchStore();
        promise10WhatOutside();
        promise11BakerOfNothing();
        promise11NoSuchBaker();
        promise11WhatOutside();
        promise12NobodyHasIt();
        promise12EachMark();
        promise12MarkOutside();
        promise13CountOfNothing();
        promise13CountOfAFullTown();
        promise13WhatOutside();
        Check.end();
    }

    // "Creates a town without stores and bakers"
    private static void promise1WithoutStoresAndBakers() {
        LoafMarks x = new LoafMarks();
        for (int number : new int[] {LEAST, -1, 0, 1, 3, 4, 5, 6, MOST}) {
            Check.refuses(x, "store(" + number + ", 0)", INDEX, () -> x.store(number, 0));
            Check.refuses(x, "smoke(" + number + ")", INDEX, () -> x.smoke(number));
            Check.refuses(x, "swear(" + number + ", ..)", INDEX, () -> x.swear(number, 0, 10, 0));
            Check.refuses(x, "baker(" + number + ", 0)", INDEX, () -> x.baker(number, 0));
            Check.refuses(x, "deal(" + number + ", 0)", INDEX, () -> x.deal(number, 0));
            Check.refuses(x, "weigh(" + number + ")", INDEX, () -> x.weigh(number));
            Check.refuses(x, "pardon(" + number + ")", INDEX, () -> x.pardon(number));
            Check.refuses(x, "advise(" + number + ", 1)", INDEX, () -> x.advise(number, 1));
        }
    }

    // "in the hour 0"
    private static void promise1InTheHour0() {
        LoafMarks x = new LoafMarks();
        Check.same("new: count(0)", x.count(0), 0);
        Check.same("new: count(1)", x.count(1), 0);
        x.open(10, 0);
        x.setGate(0, 3);
        x.pass(1);
        Check.same("its first hour is the hour 0 of the day", x.store(0, 0), 13);
    }

    // "Returns how many there were."
    private static void promise2HowManyThereWere() {
        LoafMarks x = new LoafMarks();
        int[] people = {500, 0, 0, 1, 499, 500, 20};
        int before = 20;
        for (int next : people) {
            Check.same("setPeople(" + next + ")", x.setPeople(next), before);
            Check.same("count(2) behind it", x.count(2), next);
            before = next;
        }
    }

    // "Throws IllegalArgumentException if people is not 0 to 500"
    private static void promise2PeopleOutside() {
        LoafMarks x = new LoafMarks();
        for (int people : new int[] {LEAST, -500, -1, 501, 65536, MOST}) {
            Check.refuses(x, "setPeople(" + people + ")", ARGUMENT, () -> x.setPeople(people));
        }
        Check.same("the first people stay", x.setPeople(20), 20);
    }

    // "Returns what they brought before."
    private static void promise3WhatTheyBroughtBefore() {
        LoafMarks x = new LoafMarks();
        for (int hour = 0; hour < 24; hour++) {
            Check.same("setGate(" + hour + ", ..) at first", x.setGate(hour, 99 - hour), 0);
        }
        for (int hour = 0; hour < 24; hour++) {
            Check.same("setGate(" + hour + ", 0) then", x.setGate(hour, 0), 99 - hour);
        }
    }

    // "Throws IndexOutOfBoundsException if hour is not 0 to 23"
    private static void promise3HourOutside() {
        LoafMarks x = new LoafMarks();
        for (int hour : new int[] {LEAST, -24, -1, 24, 48, MOST}) {
            Check.refuses(x, "setGate(" + hour + ", 0)", INDEX, () -> x.setGate(hour, 0));
            Check.refuses(x, "setGate(" + hour + ", 99)", INDEX, () -> x.setGate(hour, 99));
        }
    }

    // "Throws IllegalArgumentException if flour is not 0 to 99"
    private static void promise3FlourOutside() {
        LoafMarks x = new LoafMarks();
        x.setGate(23, 7);
        for (int flour : new int[] {LEAST, -1, 100, MOST}) {
            Check.refuses(x, "setGate(0, " + flour + ")", ARGUMENT, () -> x.setGate(0, flour));
            Check.refuses(x, "setGate(23, " + flour + ")", ARGUMENT, () -> x.setGate(23, flour));
        }
        Check.same("the table stays", x.setGate(23, 99), 7);
    }

    // "Returns its number."
    private static void promise4ItsNumber() {
        LoafMarks x = new LoafMarks();
        Check.same("open(0, 0), the least", x.open(0, 0), 0);
        Check.same("open(900, 50), the most", x.open(900, 50), 1);
        Check.same("open(0, 50)", x.open(0, 50), 2);
        Check.same("open(900, 0)", x.open(900, 0), 3);
        Check.same("flour of the most", x.store(1, 0), 900);
        Check.same("weevils of the most", x.store(1, 1), 50);
    }

    // "Throws IllegalArgumentException if flour is not 0 to 900"
    private static void promise4FlourOutside() {
        LoafMarks x = new LoafMarks();
        for (int flour : new int[] {LEAST, -1, 901, MOST}) {
            Check.refuses(x, "open(" + flour + ", 0)", ARGUMENT, () -> x.open(flour, 0));
        }
        Check.same("the first number is still free", x.open(0, 0), 0);
    }

    // "or weevils is not 0 to 50"
    private static void promise4WeevilsOutside() {
        LoafMarks x = new LoafMarks();
        for (int weevils : new int[] {LEAST, -1, 51, MOST}) {
            Check.refuses(x, "open(0, " + weevils + ")", ARGUMENT, () -> x.open(0, weevils));
        }
        Check.same("the first number is still free", x.open(0, 0), 0);
    }

    // "Throws IllegalStateException if there are 4"
    private static void promise4ThereAreFour() {
        LoafMarks x = TestTown.fullOfStores(0, 0);
        for (int i = 0; i < 3; i++) {
            Check.refuses(x, "open of a full town", STATE, () -> x.open(0, 0));
            x.pass(1);
        }
    }

    // "there are none then"
    private static void promise5NoneThen() {
        LoafMarks x = TestTown.fullOfStores(100, 50);
        x.smoke(3);
        Check.same("none in store 3", x.store(3, 1), 0);
        Check.same("those of store 2 stay", x.store(2, 1), 50);
        x.pass(1);
        Check.same("where none are, none eat", x.store(3, 3), 0);
    }

    // "a tenth of its flour (cut) is spoiled"
    private static void promise5ATenthCut() {
        int[] before = {0, 1, 9, 10, 11, 19, 20, 899, 900};
        int[] behind = {0, 1, 9, 9, 10, 18, 18, 810, 810};
        for (int i = 0; i < before.length; i++) {
            LoafMarks x = new LoafMarks();
            x.open(before[i], 0);
            x.smoke(0);
            Check.same("smoked: " + before[i], x.store(0, 0), behind[i]);
            Check.same("spoiled is not eaten", x.store(0, 3), 0);
            Check.same("spoiled is not lost at the gate", x.count(9), 0);
        }
    }

    // "Returns the weevils that it had."
    private static void promise5TheWeevilsThatItHad() {
        LoafMarks x = TestTown.fullOfStores(0, 50);
        Check.same("smoke(3)", x.smoke(3), 50);
        Check.same("smoke(3) again", x.smoke(3), 0);
        x.pass(1);
        Check.same("smoke(0)", x.smoke(0), 25);
    }

    // "Throws IndexOutOfBoundsException if there is no such store"
    private static void promise5NoSuchStore() {
        LoafMarks x = new LoafMarks();
        x.open(100, 10);
        x.open(100, 10);
        for (int store : new int[] {LEAST, -1, 2, 3, 4, MOST}) {
            Check.refuses(x, "smoke(" + store + ")", INDEX, () -> x.smoke(store));
        }
    }

    // "Returns the number."
    private static void promise6TheNumber() {
        LoafMarks x = TestTown.fullOfStores(900, 0);
        Check.same("swear(0, 0, 5, 0), the least", x.swear(0, 0, 5, 0), 0);
        Check.same("swear(3, 25, 12, 90), the most", x.swear(3, 25, 12, 90), 1);
        int[] due = {3, 25, 90, 0, 12, 0, 0, 0};
        for (int what = 0; what < 8; what++) {
            Check.same("the most: baker(1, " + what + ")", x.baker(1, what), due[what]);
        }
        Check.same("bakers of store 0", x.store(0, 2), 1);
        Check.same("bakers of store 1", x.store(1, 2), 0);
    }

    // "Throws IndexOutOfBoundsException if there is no such store"
    private static void promise6NoSuchStore() {
        LoafMarks x = new LoafMarks();
        x.open(1, 0);
        x.open(1, 0);
        for (int store : new int[] {LEAST, -1, 2, 3, 4, MOST}) {
            Check.refuses(x, "swear(" + store + ", 0, 10, 0)", INDEX, () -> x.swear(store, 0, 10, 0));
        }
    }

    // "Throws IllegalArgumentException if mark is not 0 to 25"
    private static void promise6MarkOutside() {
        LoafMarks x = TestTown.fullOfStores(1, 0);
        for (int mark : new int[] {LEAST, -1, 26, MOST}) {
            Check.refuses(x, "swear(0, " + mark + ", 10, 0)", ARGUMENT, () -> x.swear(0, mark, 10, 0));
        }
    }

    // "weight is not 5 to 12"
    private static void promise6WeightOutside() {
        LoafMarks x = TestTown.fullOfStores(1, 0);
        for (int weight : new int[] {LEAST, -5, 0, 4, 13, MOST}) {
            Check.refuses(x, "swear(0, 0, " + weight + ", 0)", ARGUMENT, () -> x.swear(0, 0, weight, 0));
        }
    }

    // "or ration is not 0 to 90"
    private static void promise6RationOutside() {
        LoafMarks x = TestTown.fullOfStores(1, 0);
        for (int ration : new int[] {LEAST, -1, 91, MOST}) {
            Check.refuses(x, "swear(0, 0, 10, " + ration + ")", ARGUMENT, () -> x.swear(0, 0, 10, ration));
        }
    }

    // "Throws IllegalStateException if there are 6"
    private static void promise6ThereAreSix() {
        LoafMarks x = TestTown.full();
        for (int mark = 0; mark < 26; mark++) {
            int asked = mark;
            Check.refuses(x, "the seventh, mark " + mark, STATE, () -> x.swear(0, asked, 10, 0));
        }
    }

    // "or another one has this mark"
    private static void promise6AnotherOneHasTheMark() {
        LoafMarks x = TestTown.withBaker(900, 5, 90);
        Check.refuses(x, "a mark twice", STATE, () -> x.swear(0, 0, 10, 0));
        x.pass(1);
        x.weigh(0);
        Check.refuses(x, "the mark of one who is barred", STATE, () -> x.swear(0, 0, 10, 0));
        Check.same("the number is still free", x.swear(0, 1, 10, 0), 1);
    }

    // "Returns the ration before."
    private static void promise7TheRationBefore() {
        LoafMarks x = TestTown.full();
        Check.same("deal(5, 90), the most", x.deal(5, 90), 45);
        Check.same("deal(5, 0), the least", x.deal(5, 0), 90);
        Check.same("deal(5, 0) again", x.deal(5, 0), 0);
        Check.same("the others' stay", x.deal(4, 1), 44);
    }

    // "the ration from now on"
    private static void promise7FromNowOn() {
        LoafMarks x = TestTown.withBaker(900, 12, 0);
        x.pass(1);
        x.deal(0, 90);
        x.pass(23);
        Check.same("this day's hour 0 is over", x.baker(0, 3), 0);
        x.pass(1);
        Check.same("the next hour 0", x.baker(0, 3), 90 - 48);
        x.deal(0, 0);
        x.pass(24);
        Check.same("no ration is given then", x.baker(0, 3), 6);
    }

    // "Throws IndexOutOfBoundsException if there is no such baker"
    private static void promise7NoSuchBaker() {
        LoafMarks x = TestTown.withBaker(900, 10, 50);
        for (int baker : new int[] {LEAST, -1, 1, 5, 6, MOST}) {
            Check.refuses(x, "deal(" + baker + ", 0)", INDEX, () -> x.deal(baker, 0));
        }
    }

    // "Throws IllegalArgumentException if ration is not 0 to 90"
    private static void promise7RationOutside() {
        LoafMarks x = TestTown.withBaker(900, 10, 50);
        for (int ration : new int[] {LEAST, -1, 91, MOST}) {
            Check.refuses(x, "deal(0, " + ration + ")", ARGUMENT, () -> x.deal(0, ration));
        }
    }

    // "who is barred from now on, if its weight is less than 10"
    private static void promise8BarredIfLessThan10() {
        for (int weight = 5; weight < 13; weight++) {
            LoafMarks x = TestTown.withBaker(900, weight, 90);
            x.pass(1);
            Check.same("not barred before", x.baker(0, 7), 0);
            x.weigh(0);
            Check.same("weight " + weight + ": barred", x.baker(0, 7), weight < 10 ? 1 : 0);
            x.pass(240);
            Check.same("weight " + weight + ": from now on", x.count(8), weight < 10 ? 1 : 0);
        }
    }

    // "the loaf is gone"
    private static void promise8TheLoafIsGone() {
        LoafMarks x = TestTown.withBaker(900, 12, 12);
        x.swear(0, 1, 12, 12);
        x.pass(1);
        x.weigh(0);
        Check.same("the last one is gone", x.baker(0, 5), 0);
        Check.same("the other baker's stays", x.baker(1, 5), 1);
        Check.same("its flour is gone, too", x.baker(0, 3), 0);
        Check.same("it is not bought", x.baker(0, 6) + x.count(5), 0);
        Check.same("one fewer at noon", x.pass(12), 19);
    }

    // "Returns its weight."
    private static void promise8ItsWeight() {
        for (int weight = 5; weight < 13; weight++) {
            LoafMarks x = TestTown.withBaker(900, weight, 90);
            x.pass(1);
            Check.same("weigh(0) of weight " + weight, x.weigh(0), weight);
            x.pardon(0);
            Check.same("weigh(0) behind a pardon", x.weigh(0), weight < 10 ? 10 : weight);
            Check.same("who is not barred", x.baker(0, 7), 0);
        }
    }

    // "An inspector weighs a loaf from the shelf of a baker": also of one who is barred, up to the last loaf
    private static void promise8OfOneWhoIsBarred() {
        LoafMarks x = TestTown.withBaker(900, 8, 24);
        x.pass(1);
        for (int left = 2; left >= 0; left--) {
            Check.same("weigh(0), " + left + " are left", x.weigh(0), 8);
            Check.same("on the shelf then", x.baker(0, 5), left);
            Check.same("barred, and still so", x.baker(0, 7), 1);
        }
        Check.refuses(x, "weigh(0) behind the last one", STATE, () -> x.weigh(0));
    }

    // "Throws IndexOutOfBoundsException if there is no such baker"
    private static void promise8NoSuchBaker() {
        LoafMarks x = TestTown.withBaker(900, 9, 90);
        x.pass(1);
        for (int baker : new int[] {LEAST, -1, 1, 5, 6, MOST}) {
            Check.refuses(x, "weigh(" + baker + ")", INDEX, () -> x.weigh(baker));
        }
    }

    // "Throws IllegalStateException if there is none"
    private static void promise8NoLoaf() {
        LoafMarks x = TestTown.withBaker(900, 9, 9);
        Check.refuses(x, "weigh(0) before baking", STATE, () -> x.weigh(0));
        x.pass(1);
        x.weigh(0);
        Check.refuses(x, "weigh(0) behind the last one", STATE, () -> x.weigh(0));
        LoafMarks y = TestTown.withBaker(900, 9, 9);
        y.pass(13);
        Check.refuses(y, "weigh(0) where all are bought", STATE, () -> y.weigh(0));
        Check.same("who is not barred by it", y.baker(0, 7), 0);
    }

    // "have a weight of 10 from now on, if it was less"
    private static void promise9AWeightOf10IfItWasLess() {
        for (int weight = 5; weight < 13; weight++) {
            LoafMarks x = TestTown.withBaker(900, weight, 90);
            x.pass(1);
            x.weigh(0);
            x.pardon(0);
            int due = weight < 10 ? 10 : weight;
            Check.same("pardoned: weight " + weight, x.baker(0, 4), due);
            x.pass(24);
            Check.same("from now on: weight " + weight, x.baker(0, 4), due);
        }
    }

    // "(also those on the shelf)"
    private static void promise9AlsoThoseOnTheShelf() {
        LoafMarks x = TestTown.withBaker(900, 5, 20);
        x.pass(1);
        x.pardon(0);
        Check.same("4 are on the shelf", x.baker(0, 5), 4);
        Check.same("weigh(0)", x.weigh(0), 10);
        Check.same("no reason to bar", x.baker(0, 7), 0);
        x.pass(12);
        Check.same("bought", x.count(5), 3);
        Check.same("none of them is light", x.count(6), 0);
        LoafMarks y = TestTown.withBaker(900, 5, 20);
        y.pass(13);
        y.pardon(0);
        Check.same("what was bought light stays light", y.count(6), 4);
    }

    // "Returns whether this one was barred."
    private static void promise9WhetherThisOneWasBarred() {
        LoafMarks x = TestTown.withBaker(900, 5, 90);
        x.swear(0, 1, 5, 90);
        Check.same("pardon(0), not barred", x.pardon(0), false);
        x.pass(1);
        x.weigh(1);
        Check.same("pardon(0), another one is barred", x.pardon(0), false);
        Check.same("who stays so", x.baker(1, 7), 1);
        Check.same("pardon(1), barred", x.pardon(1), true);
        Check.same("pardon(1), not barred any more", x.pardon(1), false);
        Check.same("none is barred", x.count(8), 0);
    }

    // "Throws IndexOutOfBoundsException if there is no such baker"
    private static void promise9NoSuchBaker() {
        LoafMarks x = TestTown.withBaker(900, 5, 90);
        for (int baker : new int[] {LEAST, -1, 1, 5, 6, MOST}) {
            Check.refuses(x, "pardon(" + baker + ")", INDEX, () -> x.pardon(baker));
        }
    }

    // "0 its flour, 1 its weevils, 2 its bakers, 3 flour that weevils ate in it in all": of an empty store
    private static void promise10StoreOfNothing() {
        LoafMarks x = TestTown.fullOfStores(0, 0);
        for (int store = 0; store < 4; store++) {
            for (int what = 0; what < 4; what++) {
                Check.same("empty: store(" + store + ", " + what + ")", x.store(store, what), 0);
            }
        }
        for (int baker = 0; baker < 6; baker++) {
            x.swear(3, baker, 10, 0);
        }
        Check.same("all six bakers have it", x.store(3, 2), 6);
        Check.same("none has another one", x.store(0, 2) + x.store(1, 2) + x.store(2, 2), 0);
    }

    // "2 its bakers": those who are barred are its bakers, too
    private static void promise10BakersWhoAreBarred() {
        LoafMarks x = TestTown.withBaker(900, 9, 90);
        x.swear(0, 1, 9, 90);
        x.pass(1);
        x.weigh(0);
        Check.same("one is barred", x.store(0, 2), 2);
        x.weigh(1);
        Check.same("both are barred", x.store(0, 2), 2);
    }

    // "Throws IndexOutOfBoundsException if there is no such store"
    private static void promise10NoSuchStore() {
        LoafMarks x = new LoafMarks();
        x.open(1, 1);
        for (int store : new int[] {LEAST, -1, 1, 3, 4, MOST}) {
            for (int what = 0; what < 4; what++) {
                int asked = what;
                Check.refuses(x, "store(" + store + ", " + what + ")", INDEX, () -> x.store(store, asked));
            }
        }
    }

    // "or what is not 0 to 3"
    private static void promise10WhatOutside() {
        LoafMarks x = TestTown.full();
        for (int what : new int[] {LEAST, -1, 4, MOST}) {
            Check.refuses(x, "store(0, " + what + ")", INDEX, () -> x.store(0, what));
            Check.refuses(x, "store(3, " + what + ")", INDEX, () -> x.store(3, what));
        }
    }

    // "0 the store, 1 the mark, .. 7 1 if this one is barred, else 0": of a baker with the least of all
    private static void promise11BakerOfNothing() {
        LoafMarks x = TestTown.fullOfStores(0, 0);
        x.swear(0, 0, 5, 0);
        x.pass(240);
        for (int what = 0; what < 8; what++) {
            Check.same("the least: baker(0, " + what + ")", x.baker(0, what), what == 4 ? 5 : 0);
        }
    }

    // "Throws IndexOutOfBoundsException if there is no such baker"
    private static void promise11NoSuchBaker() {
        LoafMarks x = TestTown.withBaker(900, 5, 90);
        for (int baker : new int[] {LEAST, -1, 1, 5, 6, MOST}) {
            for (int what = 0; what < 8; what++) {
                int asked = what;
                Check.refuses(x, "baker(" + baker + ", " + what + ")", INDEX, () -> x.baker(baker, asked));
            }
        }
    }

    // "or what is not 0 to 7"
    private static void promise11WhatOutside() {
        LoafMarks x = TestTown.full();
        for (int what : new int[] {LEAST, -1, 8, MOST}) {
            Check.refuses(x, "baker(0, " + what + ")", INDEX, () -> x.baker(0, what));
            Check.refuses(x, "baker(5, " + what + ")", INDEX, () -> x.baker(5, what));
        }
    }

    // "-1 if nobody does"
    private static void promise12NobodyHasIt() {
        LoafMarks x = new LoafMarks();
        LoafMarks y = TestTown.fullOfStores(0, 0);
        for (int mark = 0; mark < 26; mark++) {
            Check.same("without bakers: whose(" + mark + ")", x.whose(mark), -1);
            Check.same("with stores alone: whose(" + mark + ")", y.whose(mark), -1);
        }
    }

    // "Returns the baker who has it"
    private static void promise12EachMark() {
        LoafMarks x = TestTown.full();
        x.pass(1);
        x.weigh(0);
        for (int mark = 0; mark < 26; mark++) {
            int due = mark % 4 == 0 && mark < 24 ? mark / 4 : -1;
            Check.same("a full town: whose(" + mark + ")", x.whose(mark), due);
        }
        LoafMarks y = TestTown.fullOfStores(0, 0);
        y.swear(0, 25, 10, 0);
        Check.same("whose(25), the most", y.whose(25), 0);
    }

    // "Throws IllegalArgumentException if mark is not 0 to 25"
    private static void promise12MarkOutside() {
        LoafMarks x = TestTown.full();
        for (int mark : new int[] {LEAST, -1, 26, MOST}) {
            Check.refuses(x, "whose(" + mark + ")", ARGUMENT, () -> x.whose(mark));
        }
    }

    // "0 the hour, .. 9 flour that was lost at the gate in all": of a town without stores and bakers
    private static void promise13CountOfNothing() {
        LoafMarks x = new LoafMarks();
        x.setGate(5, 99);
        x.pass(240);
        int[] due = {240, 0, 20, 0, 0, 0, 0, 200, 0, 0};
        for (int what = 0; what < 10; what++) {
            Check.same("of nothing: count(" + what + ")", x.count(what), due[what]);
        }
    }

    // "3 flour of all stores, 4 loaves on all shelves, .. 8 bakers who are barred": of four stores and six bakers
    private static void promise13CountOfAFullTown() {
        LoafMarks x = TestTown.fullOfStores(900, 0);
        for (int baker = 0; baker < 6; baker++) {
            x.swear(baker % 4, baker, 9, 36);
        }
        Check.same("four full stores", x.count(3), 3600);
        x.pass(1);
        Check.same("six shelves", x.count(4), 24);
        for (int baker = 0; baker < 6; baker++) {
            x.weigh(baker);
            Check.same("barred", x.count(8), baker + 1);
        }
        x.setPeople(18);
        Check.same("just enough", x.pass(12), 0);
        Check.same("bought of all six", x.count(5), 18);
        Check.same("all are light", x.count(6), 18);
        Check.same("empty shelves", x.count(4), 0);
    }

    // "Throws IndexOutOfBoundsException if what is not 0 to 9"
    private static void promise13WhatOutside() {
        LoafMarks x = new LoafMarks();
        for (int what : new int[] {LEAST, -1, 10, MOST}) {
            Check.refuses(x, "count(" + what + ")", INDEX, () -> x.count(what));
        }
    }
}
