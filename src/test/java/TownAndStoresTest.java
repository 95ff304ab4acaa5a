/** Promises 1 to 5. */
public final class TownAndStoresTest {
    private static final Class<IllegalArgumentException> ARGUMENT = IllegalArgumentException.class;
    private static final Class<IllegalStateException> STATE = IllegalStateException.class;
    private static final Class<IndexOutOfBoundsException> INDEX = IndexOutOfBoundsException.class;

    public static void main(String[] args) {
        promise1NewObject();
        promise1ObjectsAreApart();
        promise2SetPeople();
        promise3SetGate();
        promise4Open();
        promise5Smoke();
        Check.end();
    }

    private static void promise1NewObject() {
        LoafMarks x = new LoafMarks();
        for (int what = 0; what < 10; what++) {
            Check.same("new: count(" + what + ")", x.count(what), what == 2 ? 20 : 0);
        }
        for (int mark = 0; mark < 26; mark++) {
            Check.same("new: whose(" + mark + ")", x.whose(mark), -1);
        }
        Check.refuses(x, "new: store(0, 0)", INDEX, () -> x.store(0, 0));
        Check.refuses(x, "new: baker(0, 0)", INDEX, () -> x.baker(0, 0));
        for (int hour = 0; hour < 24; hour++) {
            Check.same("new: setGate(" + hour + ", 0)", x.setGate(hour, 0), 0);
        }
    }

    private static void promise1ObjectsAreApart() {
        LoafMarks x = new LoafMarks();
        LoafMarks y = new LoafMarks();
        x.open(100, 0);
        x.swear(0, 1, 10, 50);
        x.setGate(0, 9);
        x.pass(13);
        Check.same("apart: digest()", y.digest(), new LoafMarks().digest());
    }

    private static void promise2SetPeople() {
        LoafMarks x = new LoafMarks();
        Check.same("setPeople(0)", x.setPeople(0), 20);
        Check.same("setPeople(500)", x.setPeople(500), 0);
        Check.same("count(2)", x.count(2), 500);
        Check.refuses(x, "setPeople(-1)", ARGUMENT, () -> x.setPeople(-1));
        Check.refuses(x, "setPeople(501)", ARGUMENT, () -> x.setPeople(501));
        Check.refuses(x, "setPeople(least)", ARGUMENT, () -> x.setPeople(Integer.MIN_VALUE));
        Check.same("setPeople(3)", x.setPeople(3), 500);
        Check.same("3 people: pass(13)", x.pass(13), 3);
    }

    private static void promise3SetGate() {
        LoafMarks x = new LoafMarks();
        Check.same("setGate(0, 99)", x.setGate(0, 99), 0);
        Check.same("setGate(0, 7)", x.setGate(0, 7), 99);
        Check.same("setGate(23, 5)", x.setGate(23, 5), 0);
        Check.same("setGate(23, 0)", x.setGate(23, 0), 5);
        Check.refuses(x, "setGate(-1, 0)", INDEX, () -> x.setGate(-1, 0));
        Check.refuses(x, "setGate(24, 0)", INDEX, () -> x.setGate(24, 0));
        Check.refuses(x, "setGate(0, -1)", ARGUMENT, () -> x.setGate(0, -1));
        Check.refuses(x, "setGate(0, 100)", ARGUMENT, () -> x.setGate(0, 100));
        Check.refuses(x, "setGate(24, 100)", INDEX, () -> x.setGate(24, 100));
        x.open(10, 0);
        x.pass(24);
        Check.same("the cart of hour 0", x.store(0, 0), 17);
        x.pass(24);
        Check.same("it comes on each day", x.store(0, 0), 17 + 7 - 1);
    }

    private static void promise4Open() {
        LoafMarks x = new LoafMarks();
        Check.refuses(x, "open(-1, 0)", ARGUMENT, () -> x.open(-1, 0));
        Check.refuses(x, "open(901, 0)", ARGUMENT, () -> x.open(901, 0));
        Check.refuses(x, "open(0, -1)", ARGUMENT, () -> x.open(0, -1));
        Check.refuses(x, "open(0, 51)", ARGUMENT, () -> x.open(0, 51));
        Check.same("open(0, 0)", x.open(0, 0), 0);
        Check.same("open(900, 50)", x.open(900, 50), 1);
        Check.same("open(3, 4)", x.open(3, 4), 2);
        Check.same("open(5, 6)", x.open(5, 6), 3);
        Check.same("store(1, 0)", x.store(1, 0), 900);
        Check.same("store(1, 1)", x.store(1, 1), 50);
        Check.same("store(3, 0)", x.store(3, 0), 5);
        Check.same("store(3, 1)", x.store(3, 1), 6);
        Check.refuses(x, "a fifth open", STATE, () -> x.open(5, 6));
        Check.refuses(x, "a fifth open(901, 0)", ARGUMENT, () -> x.open(901, 0));
        Check.refuses(x, "a fifth open(0, 51)", ARGUMENT, () -> x.open(0, 51));
    }

    private static void promise5Smoke() {
        LoafMarks x = new LoafMarks();
        Check.refuses(x, "smoke(0) without stores", INDEX, () -> x.smoke(0));
        x.open(199, 33);
        x.open(9, 0);
        Check.same("smoke(0)", x.smoke(0), 33);
        Check.same("behind smoke: store(0, 0)", x.store(0, 0), 180);
        Check.same("behind smoke: store(0, 1)", x.store(0, 1), 0);
        Check.same("spoiled is not eaten", x.store(0, 3), 0);
        Check.same("spoiled is not lost at the gate", x.count(9), 0);
        Check.same("smoke(0) again", x.smoke(0), 0);
        Check.same("again: store(0, 0)", x.store(0, 0), 162);
        Check.same("smoke(1)", x.smoke(1), 0);
        Check.same("less than ten: store(1, 0)", x.store(1, 0), 9);
        Check.refuses(x, "smoke(-1)", INDEX, () -> x.smoke(-1));
        Check.refuses(x, "smoke(2)", INDEX, () -> x.smoke(2));
        Check.refuses(x, "smoke(4)", INDEX, () -> x.smoke(4));
    }
}
