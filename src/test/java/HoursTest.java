/** Promise 14, and how an hour goes. */
public final class HoursTest {
    private static final Class<IllegalArgumentException> ARGUMENT = IllegalArgumentException.class;

    public static void main(String[] args) {
        promise14Edges();
        cartsComeToTheEmptiest();
        cartsWithoutStores();
        cartsComeBeforeRations();
        rationsByNumbers();
        weevilsMultiply();
        weevilsStarve();
        bakingByTheHour();
        sellingByNumbers();
        barredBakersSellOnly();
        Check.end();
    }

    private static void promise14Edges() {
        LoafMarks x = new LoafMarks();
        Check.refuses(x, "pass(0)", ARGUMENT, () -> x.pass(0));
        Check.refuses(x, "pass(-1)", ARGUMENT, () -> x.pass(-1));
        Check.refuses(x, "pass(241)", ARGUMENT, () -> x.pass(241));
        Check.same("pass(1)", x.pass(1), 0);
        Check.same("pass(11) up to noon", x.pass(11), 0);
        Check.same("pass(1) through noon", x.pass(1), 20);
        Check.same("count(1)", x.count(1), 13);
        Check.same("pass(240)", x.pass(240), 200);
        Check.same("count(0)", x.count(0), 253);
        Check.same("count(1) again", x.count(1), 13);
        Check.same("count(7)", x.count(7), 220);
    }

    private static void cartsComeToTheEmptiest() {
        LoafMarks x = new LoafMarks();
        x.open(40, 0);
        x.open(20, 0);
        x.open(20, 0);
        for (int hour = 1; hour < 4; hour++) {
            x.setGate(hour, 20);
        }
        x.pass(2);
        Check.same("of two the first", x.store(1, 0), 40);
        Check.same("not the second", x.store(2, 0), 20);
        x.pass(1);
        Check.same("then the second", x.store(2, 0), 40);
        x.pass(1);
        Check.same("of three the first", x.store(0, 0), 60);

        LoafMarks y = new LoafMarks();
        y.open(900, 0);
        y.open(850, 0);
        y.setGate(1, 50);
        y.setGate(2, 99);
        y.setGate(3, 1);
        y.pass(2);
        Check.same("just full", y.store(1, 0), 900);
        Check.same("nothing is lost", y.count(9), 0);
        y.pass(2);
        Check.same("all is lost", y.count(9), 100);
        Check.same("full stores stay full", y.count(3), 1800);

        LoafMarks z = new LoafMarks();
        z.open(890, 0);
        z.open(895, 0);
        z.setGate(1, 30);
        z.pass(2);
        Check.same("the rest is lost", z.count(9), 20);
        Check.same("it does not come to another store", z.store(1, 0), 895);
    }

    private static void cartsWithoutStores() {
        LoafMarks x = new LoafMarks();
        x.setGate(0, 99);
        x.pass(30);
        Check.same("without stores nothing is lost", x.count(9), 0);
        x.open(1, 0);
        x.pass(18);
        Check.same("nothing came before", x.store(0, 0), 1);
        x.pass(1);
        Check.same("now it comes", x.store(0, 0), 100);
    }

    private static void cartsComeBeforeRations() {
        LoafMarks x = new LoafMarks();
        x.open(0, 0);
        x.swear(0, 0, 10, 30);
        x.setGate(0, 40);
        x.pass(1);
        Check.same("the cart's flour is dealt, and baked at once", x.baker(0, 5), 3);
        Check.same("the rest stays", x.store(0, 0), 10);
    }

    private static void rationsByNumbers() {
        LoafMarks x = new LoafMarks();
        x.open(100, 40);
        x.open(100, 0);
        x.swear(0, 0, 12, 70);
        x.swear(1, 1, 12, 10);
        x.swear(0, 2, 12, 70);
        x.swear(0, 3, 12, 70);
        x.pass(1);
        Check.same("the first gets all", x.baker(0, 3), 70 - 48);
        Check.same("another store", x.baker(1, 3), 10);
        Check.same("the next gets the rest", x.baker(2, 3) + 12 * x.baker(2, 5), 30);
        Check.same("the last gets none", x.baker(3, 3), 0);
        Check.same("weevils come behind bakers", x.store(0, 3), 0);
        x.pass(23);
        Check.same("rations are dealt once a day", x.store(1, 0), 90);
        x.pass(1);
        Check.same("on the next day, too", x.store(1, 0), 80 - 1);
    }

    private static void weevilsMultiply() {
        LoafMarks x = new LoafMarks();
        x.open(900, 0);
        int weevils = 0;
        int flour = 900;
        int eaten = 0;
        for (int day = 0; day < 20; day++) {
            x.pass(24);
            eaten += Math.min(weevils, flour);
            flour -= Math.min(weevils, flour);
            weevils = Math.min(50, weevils + weevils / 4 + 1);
            Check.same("weevils behind day " + day, x.store(0, 1), weevils);
            Check.same("flour behind day " + day, x.store(0, 0), flour);
            Check.same("eaten behind day " + day, x.store(0, 3), eaten);
        }
        Check.same("they are at most 50", weevils, 50);
    }

    private static void weevilsStarve() {
        LoafMarks x = new LoafMarks();
        x.open(31, 30);
        x.open(30, 30);
        x.open(29, 31);
        x.open(0, 1);
        x.pass(1);
        int[][] due = {{1, 38, 30}, {0, 15, 30}, {0, 15, 29}, {0, 0, 0}};
        for (int store = 0; store < 4; store++) {
            Check.same("starving: flour of " + store, x.store(store, 0), due[store][0]);
            Check.same("starving: weevils of " + store, x.store(store, 1), due[store][1]);
            Check.same("starving: eaten of " + store, x.store(store, 3), due[store][2]);
        }
        x.pass(24);
        Check.same("the last flour: eaten", x.store(0, 3), 31);
        Check.same("the last flour: weevils", x.store(0, 1), 19);
        Check.same("half of 15", x.store(1, 1), 7);
    }

    private static void bakingByTheHour() {
        LoafMarks x = new LoafMarks();
        x.open(900, 0);
        x.setPeople(0);
        x.swear(0, 0, 7, 65);
        int[] loaves = {4, 8, 9, 9};
        int[] atHand = {37, 9, 2, 2};
        for (int hour = 0; hour < 4; hour++) {
            x.pass(1);
            Check.same("shelf behind hour " + hour, x.baker(0, 5), loaves[hour]);
            Check.same("at hand behind hour " + hour, x.baker(0, 3), atHand[hour]);
        }
        x.pass(21);
        Check.same("what is at hand stays for the next day", x.baker(0, 3), 2 + 65 - 28);
    }

    private static void sellingByNumbers() {
        LoafMarks x = new LoafMarks();
        x.open(900, 0);
        x.swear(0, 0, 10, 30);
        x.swear(0, 1, 9, 45);
        x.swear(0, 2, 10, 60);
        x.setPeople(7);
        Check.same("enough for all", x.pass(13), 0);
        int[] bought = {3, 4, 0};
        int[] left = {0, 1, 6};
        for (int baker = 0; baker < 3; baker++) {
            Check.same("bought of " + baker, x.baker(baker, 6), bought[baker]);
            Check.same("left of " + baker, x.baker(baker, 5), left[baker]);
        }
        Check.same("bought in all", x.count(5), 7);
        Check.same("light loaves", x.count(6), 4);
        x.setPeople(100);
        Check.same("not enough", x.pass(24), 100 - 7 - 14);
        Check.same("bought in all then", x.count(5), 28);
        Check.same("light loaves then", x.count(6), 4 + 1 + 5);
        Check.same("hungry in all", x.count(7), 79);
        int[] boughtInAll = {3 + 3, 4 + 6, 12};
        for (int baker = 0; baker < 3; baker++) {
            Check.same("bought in all of " + baker, x.baker(baker, 6), boughtInAll[baker]);
        }
    }

    private static void barredBakersSellOnly() {
        LoafMarks x = new LoafMarks();
        x.open(900, 0);
        x.swear(0, 0, 9, 80);
        x.pass(1);
        x.weigh(0);
        Check.same("their loaves are bought", x.pass(12), 17);
        Check.same("as light ones", x.count(6), 3);
        Check.same("they do not bake", x.baker(0, 3), 80 - 36);
        x.pass(24);
        Check.same("and get no ration", x.baker(0, 3), 80 - 36);
        Check.same("which stays in the store", x.store(0, 0), 820 - 1);
        x.pardon(0);
        x.pass(1);
        Check.same("the flour at hand stays theirs", x.baker(0, 5), 4);
    }
}
