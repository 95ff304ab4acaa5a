import java.util.ArrayList;
import java.util.List;

/** Terms, all but how an hour goes: a test for each sentence that names an edge, which is quoted above it. */
public final class TermsEdgesTest {
    private static final Class<IllegalArgumentException> ARGUMENT = IllegalArgumentException.class;
    private static final Class<IllegalStateException> STATE = IllegalStateException.class;
    private static final Class<IndexOutOfBoundsException> INDEX = IndexOutOfBoundsException.class;
    private static final int LEAST = Integer.MIN_VALUE;
    private static final int MOST = Integer.MAX_VALUE;

    public static void main(String[] args) {
        hungryIfThereAreTooFew();
        quotientsAreCut();
        hoursAreToldFromZero();
        hourOfTheDayComesAround();
        hourOfTheDayOfALongLife();
        peopleAtFirst();
        peopleWithin();
        gateIsShutAtFirst();
        gateWithin();
        storesAtMostFour();
        storesAreNumberedInOrder();
        flourNeverAbove900();
        flourNeverBelow0();
        weevilsNeverAbove50();
        weevilsNeverBelow0();
        bakersAtMostSix();
        bakersAreNumberedInOrder();
        markOfNoOther();
        bakersAtFirst();
        refusedCallsChangeNothingInAnEmptyTown();
        refusedCallsChangeNothingInAFullTown();
        refusedCallsChangeNothingThatComes();
        firstNamedExceptionIsThrown();
        firstNamedExceptionIsThrownByAFullTown();
        Check.end();
    }

    // "people buy loaves at noon, and go hungry if there are too few"
    private static void hungryIfThereAreTooFew() {
        int[] people = {0, 4, 5, 6, 500};
        int[] hungry = {0, 0, 0, 1, 495};
        for (int i = 0; i < people.length; i++) {
            LoafMarks x = TestTown.withBaker(900, 10, 50);
            x.setPeople(people[i]);
            Check.same("5 loaves, people " + people[i] + ": pass(13)", x.pass(13), hungry[i]);
        }
    }

    // "All numbers are whole, and / is cut towards 0."
    private static void quotientsAreCut() {
        LoafMarks x = new LoafMarks();
        x.open(29, 7);
        x.open(7, 7);
        x.swear(0, 0, 10, 19);
        x.smoke(1);
        Check.same("a tenth of 7", x.store(1, 0), 7);
        x.pass(1);
        Check.same("19 by 10", x.baker(0, 5), 1);
        Check.same("7 and a quarter and 1", x.store(0, 1), 9);
    }

    // "Time is told in hours, from 0"
    private static void hoursAreToldFromZero() {
        LoafMarks x = new LoafMarks();
        Check.same("count(0) at first", x.count(0), 0);
        x.pass(1);
        Check.same("count(0) behind an hour", x.count(0), 1);
        x.pass(240);
        Check.same("count(0) is not cut by the day", x.count(0), 241);
    }

    // "the hour of the day is the remainder of it by 24"
    private static void hourOfTheDayComesAround() {
        LoafMarks x = new LoafMarks();
        for (int hour = 0; hour < 50; hour++) {
            int due = hour < 24 ? hour : hour < 48 ? hour - 24 : hour - 48;
            Check.same("hour " + hour + ": count(1)", x.count(1), due);
            x.pass(1);
        }
    }

    // "An object is used for at most 512 calls after it has been made"
    private static void hourOfTheDayOfALongLife() {
        LoafMarks x = new LoafMarks();
        x.open(900, 0);
        x.setGate(7, 99);
        x.setPeople(500);
        for (int i = 0; i < 505; i++) {
            x.pass(i == 0 ? 239 : 240);
        }
        Check.same("the longest life: count(0)", x.count(0), 505 * 240 - 1);
        Check.same("the longest life: count(1)", x.count(1), 23);
        Check.same("the longest life: count(7)", x.count(7), 5050 * 500);
        Check.same("the longest life: what is lost and eaten", x.count(9) + x.store(0, 3) + x.store(0, 0),
            900 + 5050 * 99);
    }

    // "It has people, .. (20, at first)."
    private static void peopleAtFirst() {
        Check.same("count(2) at first", new LoafMarks().count(2), 20);
        Check.same("the first noon", new LoafMarks().pass(13), 20);
    }

    // "It has people, 0 to 500"
    private static void peopleWithin() {
        LoafMarks x = new LoafMarks();
        for (int people : new int[] {LEAST, -1, 501, MOST}) {
            Check.refuses(x, "setPeople(" + people + ")", ARGUMENT, () -> x.setPeople(people));
        }
        x.setPeople(500);
        Check.same("500 people", x.pass(13), 500);
        x.setPeople(0);
        Check.same("no people", x.pass(24), 0);
    }

    // "A table tells for each hour of the day how much flour carts bring, .. (0, at first: the gate is shut)."
    private static void gateIsShutAtFirst() {
        LoafMarks x = new LoafMarks();
        x.open(0, 0);
        x.pass(240);
        Check.same("shut: store(0, 0)", x.store(0, 0), 0);
        Check.same("shut: count(9)", x.count(9), 0);
    }

    // "A table tells for each hour of the day how much flour carts bring, 0 to 99"
    private static void gateWithin() {
        for (int hour = 0; hour < 24; hour++) {
            LoafMarks x = new LoafMarks();
            x.open(0, 0);
            x.setGate(hour, 99);
            x.pass(24);
            int eaten = hour == 0 ? 0 : x.store(0, 3);
            Check.same("99 in the hour " + hour, x.store(0, 0) + eaten, 99);
            Check.same("99 is within", x.setGate(hour, 0), 99);
            Check.same("0 is within", x.setGate(hour, 0), 0);
        }
    }

    // "There are at most 4"
    private static void storesAtMostFour() {
        LoafMarks x = new LoafMarks();
        for (int store = 0; store < 4; store++) {
            int next = store;
            Check.refuses(x, "no store " + store + " yet", INDEX, () -> x.store(next, 0));
            x.open(store, 0);
        }
        Check.refuses(x, "the fifth open", STATE, () -> x.open(0, 0));
        Check.refuses(x, "no store 4", INDEX, () -> x.store(4, 0));
    }

    // "numbered from 0 in the order of their opening"
    private static void storesAreNumberedInOrder() {
        LoafMarks x = new LoafMarks();
        int[] flour = {30, 10, 40, 20};
        for (int store = 0; store < 4; store++) {
            Check.same("the number of store " + store, x.open(flour[store], 50 - store), store);
        }
        for (int store = 0; store < 4; store++) {
            Check.same("flour of store " + store, x.store(store, 0), flour[store]);
            Check.same("weevils of store " + store, x.store(store, 1), 50 - store);
        }
    }

    // "each has flour, 0 to 900"
    private static void flourNeverAbove900() {
        LoafMarks x = TestTown.fullOfStores(900, 0);
        for (int hour = 0; hour < 24; hour++) {
            x.setGate(hour, 99);
        }
        for (int hour = 0; hour < 60; hour++) {
            x.pass(1);
            for (int store = 0; store < 4; store++) {
                Check.same("at most 900", x.store(store, 0) <= 900, true);
            }
        }
        Check.same("four full stores", x.count(3), 3600);
    }

    // "each has flour, 0 to 900"
    private static void flourNeverBelow0() {
        LoafMarks x = TestTown.fullOfStores(70, 50);
        for (int baker = 0; baker < 6; baker++) {
            x.swear(baker % 4, baker, 12, 90);
        }
        for (int hour = 0; hour < 60; hour++) {
            x.pass(1);
            for (int store = 0; store < 4; store++) {
                Check.same("nothing is left", x.store(store, 0), 0);
            }
        }
        Check.same("bakers got all", x.store(0, 3) + x.store(1, 3) + x.store(2, 3) + x.store(3, 3), 0);
    }

    // "and weevils, 0 to 50"
    private static void weevilsNeverAbove50() {
        LoafMarks x = TestTown.fullOfStores(900, 50);
        for (int day = 0; day < 10; day++) {
            x.pass(24);
            for (int store = 0; store < 4; store++) {
                Check.same("50 stay 50", x.store(store, 1), 50);
            }
        }
        Check.same("foresee(1, 3) of four such stores", x.foresee(1, 3), 200);
    }

    // "and weevils, 0 to 50"
    private static void weevilsNeverBelow0() {
        LoafMarks x = TestTown.fullOfStores(0, 1);
        for (int day = 0; day < 3; day++) {
            x.pass(24);
            for (int store = 0; store < 4; store++) {
                Check.same("none are left", x.store(store, 1), 0);
            }
        }
    }

    // "There are at most 6"
    private static void bakersAtMostSix() {
        LoafMarks x = new LoafMarks();
        x.open(900, 0);
        for (int baker = 0; baker < 6; baker++) {
            int next = baker;
            Check.refuses(x, "no baker " + baker + " yet", INDEX, () -> x.baker(next, 0));
            x.swear(0, baker, 10, 0);
        }
        Check.refuses(x, "the seventh swear", STATE, () -> x.swear(0, 6, 10, 0));
        Check.refuses(x, "no baker 6", INDEX, () -> x.baker(6, 0));
    }

    // "numbered likewise"
    private static void bakersAreNumberedInOrder() {
        LoafMarks x = TestTown.fullOfStores(900, 0);
        int[] marks = {9, 25, 0, 13, 4, 24};
        for (int baker = 0; baker < 6; baker++) {
            Check.same("the number of baker " + baker, x.swear(baker % 4, marks[baker], 10, 0), baker);
        }
        for (int baker = 0; baker < 6; baker++) {
            Check.same("the mark of baker " + baker, x.baker(baker, 1), marks[baker]);
        }
    }

    // "a mark, 0 to 25, which no other one has"
    private static void markOfNoOther() {
        LoafMarks x = TestTown.fullOfStores(900, 0);
        x.swear(0, 0, 10, 0);
        x.swear(1, 25, 10, 0);
        Check.refuses(x, "0 twice, of the same store", STATE, () -> x.swear(0, 0, 10, 0));
        Check.refuses(x, "0 twice, of another store", STATE, () -> x.swear(3, 0, 5, 90));
        Check.refuses(x, "25 twice", STATE, () -> x.swear(1, 25, 10, 0));
        Check.same("24 is free", x.swear(0, 24, 10, 0), 2);
        Check.same("1 is free", x.swear(0, 1, 10, 0), 3);
    }

    // "flour at hand (0, at first), .. loaves on the shelf (0, at first), and is barred or not (not, at first)"
    private static void bakersAtFirst() {
        LoafMarks x = new LoafMarks();
        x.open(900, 0);
        x.pass(1);
        x.swear(0, 0, 5, 90);
        Check.same("at hand, at first", x.baker(0, 3), 0);
        Check.same("on the shelf, at first", x.baker(0, 5), 0);
        Check.same("bought, at first", x.baker(0, 6), 0);
        Check.same("not barred, at first", x.baker(0, 7), 0);
        Check.same("none is barred", x.count(8), 0);
        x.pass(23);
        Check.same("no ration before the hour 0", x.baker(0, 5), 0);
        x.pass(1);
        Check.same("and then they bake", x.baker(0, 5), 4);
    }

    private static void refuseAll(LoafMarks x, String town) {
        List<Runnable> calls = new ArrayList<>();
        for (int out : new int[] {LEAST, -1, 901, MOST}) {
            calls.add(() -> x.setPeople(out));
            calls.add(() -> x.setGate(out, 5));
            calls.add(() -> x.setGate(5, out));
            calls.add(() -> x.open(out, 5));
            calls.add(() -> x.open(5, out));
            calls.add(() -> x.smoke(out));
            calls.add(() -> x.swear(out, 5, 10, 5));
            calls.add(() -> x.swear(0, out, 10, 5));
            calls.add(() -> x.swear(0, 5, out, 5));
            calls.add(() -> x.swear(0, 5, 10, out));
            calls.add(() -> x.deal(out, 5));
            calls.add(() -> x.deal(0, out));
            calls.add(() -> x.weigh(out));
            calls.add(() -> x.pardon(out));
            calls.add(() -> x.store(out, 0));
            calls.add(() -> x.store(0, out));
            calls.add(() -> x.baker(out, 0));
            calls.add(() -> x.baker(0, out));
            calls.add(() -> x.whose(out));
            calls.add(() -> x.count(out));
            calls.add(() -> x.pass(out));
            calls.add(() -> x.foresee(out, 0));
            calls.add(() -> x.foresee(5, out));
            calls.add(() -> x.advise(out, 5));
            calls.add(() -> x.advise(0, out));
        }
        long before = x.digest();
        for (int i = 0; i < calls.size(); i++) {
            Check.same(town + ": refused call " + i, TestTown.refused(calls.get(i)), true);
            Check.same(town + ": the digest behind refused call " + i, x.digest(), before);
        }
    }

    // "A method that throws an exception changes nothing."
    private static void refusedCallsChangeNothingInAnEmptyTown() {
        refuseAll(new LoafMarks(), "empty");
        LoafMarks x = TestTown.fullOfStores(50, 5);
        refuseAll(x, "without bakers");
    }

    // "A method that throws an exception changes nothing."
    private static void refusedCallsChangeNothingInAFullTown() {
        LoafMarks x = TestTown.full();
        x.pass(3);
        refuseAll(x, "full");
        Check.refuses(x, "a fifth store", STATE, () -> x.open(1, 1));
        Check.refuses(x, "a seventh baker", STATE, () -> x.swear(1, 20, 10, 1));
        Check.refuses(x, "a mark twice", STATE, () -> x.swear(1, 0, 10, 1));
        x.pass(20);
        Check.refuses(x, "an empty shelf", STATE, () -> x.weigh(0));
        Check.same("who is not barred by it", x.baker(0, 7), 0);
    }

    // "A method that throws an exception changes nothing."
    private static void refusedCallsChangeNothingThatComes() {
        LoafMarks x = TestTown.full();
        LoafMarks y = TestTown.full();
        refuseAll(x, "full, before hours");
        for (int i = 0; i < 5; i++) {
            Check.same("lasts() behind refused calls", x.lasts(), y.lasts());
            Check.same("pass(31) behind refused calls", x.pass(31), y.pass(31));
            Check.same("digest() behind refused calls", x.digest(), y.digest());
        }
    }

    // "If several exceptions apply, the one that is named first is thrown."
    private static void firstNamedExceptionIsThrown() {
        LoafMarks x = new LoafMarks();
        Check.refuses(x, "setGate(24, 100)", INDEX, () -> x.setGate(24, 100));
        Check.refuses(x, "setGate(-1, -1)", INDEX, () -> x.setGate(-1, -1));
        Check.refuses(x, "swear(0, 26, 13, 91)", INDEX, () -> x.swear(0, 26, 13, 91));
        Check.refuses(x, "deal(0, 91)", INDEX, () -> x.deal(0, 91));
        Check.refuses(x, "advise(0, 97)", INDEX, () -> x.advise(0, 97));
        Check.refuses(x, "foresee(241, 4)", ARGUMENT, () -> x.foresee(241, 4));
        Check.refuses(x, "foresee(0, -1)", ARGUMENT, () -> x.foresee(0, -1));
        Check.refuses(x, "weigh(0) of nobody", INDEX, () -> x.weigh(0));
    }

    // "If several exceptions apply, the one that is named first is thrown."
    private static void firstNamedExceptionIsThrownByAFullTown() {
        LoafMarks x = TestTown.full();
        Check.refuses(x, "open(901, 0)", ARGUMENT, () -> x.open(901, 0));
        Check.refuses(x, "open(0, 51)", ARGUMENT, () -> x.open(0, 51));
        Check.refuses(x, "swear(4, 26, 4, 91)", INDEX, () -> x.swear(4, 26, 4, 91));
        Check.refuses(x, "swear(4, 0, 10, 0)", INDEX, () -> x.swear(4, 0, 10, 0));
        Check.refuses(x, "swear(0, 26, 10, 0)", ARGUMENT, () -> x.swear(0, 26, 10, 0));
        Check.refuses(x, "swear(0, 0, 4, 0)", ARGUMENT, () -> x.swear(0, 0, 4, 0));
        Check.refuses(x, "swear(0, 0, 10, 91)", ARGUMENT, () -> x.swear(0, 0, 10, 91));
        Check.refuses(x, "deal(6, 91)", INDEX, () -> x.deal(6, 91));
        Check.refuses(x, "advise(6, 0)", INDEX, () -> x.advise(6, 0));
        Check.refuses(x, "weigh(6)", INDEX, () -> x.weigh(6));
    }
}
