/** Promises 6 to 9. */
public final class BakersTest {
    private static final Class<IllegalArgumentException> ARGUMENT = IllegalArgumentException.class;
    private static final Class<IllegalStateException> STATE = IllegalStateException.class;
    private static final Class<IndexOutOfBoundsException> INDEX = IndexOutOfBoundsException.class;

    public static void main(String[] args) {
        promise6Swear();
        promise6SwearRefuses();
        promise7Deal();
        promise8Weigh();
        promise8WeighRefuses();
        promise9Pardon();
        promise9PardonWithoutBar();
        Check.end();
    }

    private static void promise6Swear() {
        LoafMarks x = new LoafMarks();
        x.open(100, 0);
        x.open(200, 0);
        Check.same("swear(1, 25, 12, 90)", x.swear(1, 25, 12, 90), 0);
        Check.same("swear(0, 0, 5, 0)", x.swear(0, 0, 5, 0), 1);
        int[] first = {1, 25, 90, 0, 12, 0, 0, 0};
        int[] second = {0, 0, 0, 0, 5, 0, 0, 0};
        for (int what = 0; what < 8; what++) {
            Check.same("sworn: baker(0, " + what + ")", x.baker(0, what), first[what]);
            Check.same("sworn: baker(1, " + what + ")", x.baker(1, what), second[what]);
        }
    }

    private static void promise6SwearRefuses() {
        LoafMarks x = new LoafMarks();
        Check.refuses(x, "swear without stores", INDEX, () -> x.swear(0, 26, 4, 91));
        x.open(100, 0);
        Check.refuses(x, "swear(-1, ..)", INDEX, () -> x.swear(-1, 0, 10, 0));
        Check.refuses(x, "swear(1, ..)", INDEX, () -> x.swear(1, 0, 10, 0));
        Check.refuses(x, "mark -1", ARGUMENT, () -> x.swear(0, -1, 10, 0));
        Check.refuses(x, "mark 26", ARGUMENT, () -> x.swear(0, 26, 10, 0));
        Check.refuses(x, "weight 4", ARGUMENT, () -> x.swear(0, 0, 4, 0));
        Check.refuses(x, "weight 13", ARGUMENT, () -> x.swear(0, 0, 13, 0));
        Check.refuses(x, "ration -1", ARGUMENT, () -> x.swear(0, 0, 10, -1));
        Check.refuses(x, "ration 91", ARGUMENT, () -> x.swear(0, 0, 10, 91));
        for (int i = 0; i < 5; i++) {
            Check.same("swear mark " + i, x.swear(0, i, 10, 0), i);
            int mark = i;
            Check.refuses(x, "a mark twice", STATE, () -> x.swear(0, mark, 11, 1));
        }
        Check.refuses(x, "a mark twice, weight 13", ARGUMENT, () -> x.swear(0, 2, 13, 1));
        Check.same("the sixth", x.swear(0, 20, 10, 0), 5);
        Check.refuses(x, "the seventh", STATE, () -> x.swear(0, 21, 10, 0));
        Check.refuses(x, "the seventh, ration 91", ARGUMENT, () -> x.swear(0, 21, 10, 91));
        Check.refuses(x, "the seventh, store 1", INDEX, () -> x.swear(1, 21, 10, 0));
    }

    private static void promise7Deal() {
        LoafMarks x = new LoafMarks();
        Check.refuses(x, "deal without bakers", INDEX, () -> x.deal(0, 91));
        x.open(100, 0);
        x.swear(0, 3, 10, 17);
        Check.same("deal(0, 90)", x.deal(0, 90), 17);
        Check.same("deal(0, 0)", x.deal(0, 0), 90);
        Check.same("deal(0, 30)", x.deal(0, 30), 0);
        Check.same("baker(0, 2)", x.baker(0, 2), 30);
        Check.refuses(x, "deal(-1, 0)", INDEX, () -> x.deal(-1, 0));
        Check.refuses(x, "deal(1, 0)", INDEX, () -> x.deal(1, 0));
        Check.refuses(x, "deal(1, 91)", INDEX, () -> x.deal(1, 91));
        Check.refuses(x, "deal(0, -1)", ARGUMENT, () -> x.deal(0, -1));
        Check.refuses(x, "deal(0, 91)", ARGUMENT, () -> x.deal(0, 91));
        x.pass(1);
        Check.same("the new ration is given", x.store(0, 0), 70);
    }

    private static LoafMarks bakersOfWeights(int... weights) {
        LoafMarks x = new LoafMarks();
        x.open(900, 0);
        for (int i = 0; i < weights.length; i++) {
            x.swear(0, i, weights[i], 90);
        }
        x.pass(1);
        return x;
    }

    private static void promise8Weigh() {
        LoafMarks x = bakersOfWeights(9, 10, 5, 12);
        Check.same("weigh(0)", x.weigh(0), 9);
        Check.same("9 is barred", x.baker(0, 7), 1);
        Check.same("the loaf is gone", x.baker(0, 5), 3);
        Check.same("it is not bought", x.baker(0, 6), 0);
        Check.same("weigh(1)", x.weigh(1), 10);
        Check.same("10 is not barred", x.baker(1, 7), 0);
        Check.same("this loaf is gone, too", x.baker(1, 5), 3);
        Check.same("weigh(2)", x.weigh(2), 5);
        Check.same("weigh(3)", x.weigh(3), 12);
        Check.same("5 is barred", x.baker(2, 7), 1);
        Check.same("12 is not barred", x.baker(3, 7), 0);
        Check.same("count(8)", x.count(8), 2);
        Check.same("weigh(0) of one who is barred", x.weigh(0), 9);
        Check.same("who stays barred", x.baker(0, 7), 1);
    }

    private static void promise8WeighRefuses() {
        LoafMarks x = bakersOfWeights(8, 11);
        Check.refuses(x, "weigh(-1)", INDEX, () -> x.weigh(-1));
        Check.refuses(x, "weigh(2)", INDEX, () -> x.weigh(2));
        for (int i = 0; i < 4; i++) {
            x.weigh(0);
            x.weigh(1);
        }
        Check.refuses(x, "weigh(0) of an empty shelf", STATE, () -> x.weigh(0));
        Check.refuses(x, "weigh(1) of an empty shelf", STATE, () -> x.weigh(1));
    }

    private static void promise9Pardon() {
        LoafMarks x = bakersOfWeights(6);
        x.weigh(0);
        x.pass(1);
        Check.same("barred: no baking", x.baker(0, 5), 3);
        Check.same("pardon(0)", x.pardon(0), true);
        Check.same("pardoned: baker(0, 7)", x.baker(0, 7), 0);
        Check.same("pardoned: baker(0, 4)", x.baker(0, 4), 10);
        Check.same("pardon(0) again", x.pardon(0), false);
        x.pass(11);
        Check.same("loaves on the shelf are no light ones", x.count(6), 0);
        Check.same("it is baked again, by a weight of 10", x.count(5), 3 + 6);
        Check.refuses(x, "pardon(-1)", INDEX, () -> x.pardon(-1));
        Check.refuses(x, "pardon(1)", INDEX, () -> x.pardon(1));
        Check.refuses(x, "pardon(6)", INDEX, () -> x.pardon(6));
    }

    private static void promise9PardonWithoutBar() {
        LoafMarks x = bakersOfWeights(7, 12, 10);
        Check.same("pardon(0), not barred", x.pardon(0), false);
        Check.same("a weight of 7 becomes 10", x.baker(0, 4), 10);
        Check.same("pardon(1)", x.pardon(1), false);
        Check.same("a weight of 12 stays", x.baker(1, 4), 12);
        Check.same("pardon(2)", x.pardon(2), false);
        Check.same("a weight of 10 stays", x.baker(2, 4), 10);
    }
}
