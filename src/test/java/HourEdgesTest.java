/** Terms, how an hour goes: a test for each sentence that names an edge, which is quoted above it. */
public final class HourEdgesTest {
    public static void main(String[] args) {
        cartsWithoutAStore();
        cartsToTheLeastFlour();
        cartsToTheSmallestNumber();
        cartsFillUpTo900();
        cartsLoseWhatIsMore();
        cartsLoseAllAtFullStores();
        cartsBeforeRations();
        rationsInTheHour0Only();
        rationsNotOfBarred();
        rationsByNumbers();
        rationsOutOfTheOwnStore();
        rationsAsFarAsThereIsFlour();
        weevilsInTheHour0Only();
        weevilsBehindRations();
        weevilsEatAsFarAsThereIsFlour();
        weevilsGrowIfFlourIsLeft();
        weevilsHalveIfNoneIsLeft();
        weevilsAtMost50();
        weevilsOfAnEmptyStore();
        weevilsStoreByStore();
        bakersBakeByTheWeight();
        bakersBakeAtMostFour();
        bakersWhoAreBarredBakeNothing();
        bakedFlourIsGone();
        loavesHaveNoMost();
        bakersBakeInTheHourOfTheirRation();
        bakersBakeBeforeNoonsSale();
        loavesAreBoughtInTheHour12Only();
        loavesAsManyAsPeople();
        loavesAsFarAsThereAre();
        loavesOfTheSmallestNumberFirst();
        loavesOfBarredBakers();
        peopleWithoutOneGoHungry();
        loavesBelow10AreLight();
        theHourIsOneGreater();
        Check.end();
    }

    // "Carts, if there is a store (otherwise nothing comes, and nothing is lost)"
    private static void cartsWithoutAStore() {
        LoafMarks x = new LoafMarks();
        for (int hour = 0; hour < 24; hour++) {
            x.setGate(hour, 99);
        }
        x.pass(240);
        Check.same("nothing is lost", x.count(9), 0);
        Check.same("nothing comes", x.count(3), 0);
        x.open(0, 0);
        Check.same("nothing has waited", x.store(0, 0), 0);
        x.pass(1);
        Check.same("the first cart", x.store(0, 0), 99);
    }

    // "their flour comes to the store with the least flour"
    private static void cartsToTheLeastFlour() {
        for (int least = 0; least < 4; least++) {
            LoafMarks x = new LoafMarks();
            for (int store = 0; store < 4; store++) {
                x.open(store == least ? 99 : 100 + store, 0);
            }
            x.setGate(1, 50);
            x.pass(2);
            Check.same("the least is store " + least, x.store(least, 0), 149);
            Check.same("the others get none", x.count(3), 99 + 306 - least + 50);
        }
    }

    // "of several the one with the smallest number"
    private static void cartsToTheSmallestNumber() {
        LoafMarks x = new LoafMarks();
        x.open(60, 0);
        x.open(50, 0);
        x.open(50, 0);
        x.open(50, 0);
        x.setGate(1, 10);
        x.setGate(2, 10);
        x.setGate(3, 10);
        x.setGate(4, 1);
        int[] due = {1, 2, 3, 0};
        for (int hour = 1; hour < 5; hour++) {
            x.pass(hour == 1 ? 2 : 1);
            int grown = hour < 4 ? 60 : 61;
            Check.same("the cart of the hour " + hour, x.store(due[hour - 1], 0), grown);
        }
    }

    // "comes to the store .., at most 900"
    private static void cartsFillUpTo900() {
        LoafMarks x = new LoafMarks();
        x.open(801, 0);
        x.setGate(1, 99);
        x.pass(2);
        Check.same("just full", x.store(0, 0), 900);
        Check.same("nothing is lost", x.count(9), 0);
    }

    // "what is more is lost"
    private static void cartsLoseWhatIsMore() {
        LoafMarks x = new LoafMarks();
        x.open(802, 0);
        x.open(803, 0);
        x.setGate(1, 99);
        x.pass(2);
        Check.same("full", x.store(0, 0), 900);
        Check.same("1 is lost", x.count(9), 1);
        Check.same("the rest goes to no other store", x.store(1, 0), 803);
        x.pass(24);
        // A weevil came up in each store, and ate 1 of it.
        Check.same("what is lost adds up", x.count(9), 1 + (803 - 1 + 99 - 900));
    }

    // "what is more is lost"
    private static void cartsLoseAllAtFullStores() {
        LoafMarks x = TestTown.fullOfStores(900, 0);
        x.setGate(0, 7);
        x.setGate(1, 0);
        x.pass(1);
        Check.same("all is lost", x.count(9), 7);
        Check.same("the stores stay full", x.count(3), 3600);
        x.pass(1);
        Check.same("a shut gate loses nothing", x.count(9), 7);
    }

    // Step 1 is before step 2: what comes is dealt, and a full store loses what rations would have made room for.
    private static void cartsBeforeRations() {
        LoafMarks x = TestTown.withBaker(0, 10, 90);
        x.setGate(0, 99);
        x.pass(1);
        Check.same("dealt at once", x.store(0, 0), 9);
        LoafMarks y = TestTown.withBaker(900, 10, 90);
        y.setGate(0, 99);
        y.pass(1);
        Check.same("lost before there is room", y.count(9), 99);
        Check.same("dealt from a full store", y.store(0, 0), 810);
    }

    // "In the hour 0 of a day: bakers .. get their ration"
    private static void rationsInTheHour0Only() {
        LoafMarks x = TestTown.withBaker(900, 12, 13);
        for (int hour = 0; hour < 49; hour++) {
            x.pass(1);
            int got = 12 * (x.baker(0, 5) + x.baker(0, 6)) + x.baker(0, 3);
            Check.same("rations behind the hour " + hour, got, 13 * (hour / 24 + 1));
        }
    }

    // "bakers who are not barred .. get their ration"
    private static void rationsNotOfBarred() {
        LoafMarks x = TestTown.withBaker(90, 9, 9);
        x.swear(0, 1, 10, 90);
        x.pass(1);
        x.weigh(0);
        x.pass(24);
        Check.same("the one who is barred gets none", x.baker(0, 3), 0);
        Check.same("nor another one for it, as there is none", x.store(0, 0), 0);
        LoafMarks y = TestTown.withBaker(900, 9, 9);
        y.pass(1);
        y.weigh(0);
        y.pass(24);
        Check.same("it stays in the store", y.store(0, 0), 900 - 9 - 1);
    }

    // "by numbers, get their ration out of their store"
    private static void rationsByNumbers() {
        LoafMarks x = new LoafMarks();
        x.open(130, 0);
        x.swear(0, 25, 12, 50);
        x.swear(0, 0, 12, 50);
        x.swear(0, 12, 12, 50);
        x.swear(0, 3, 12, 50);
        x.pass(1);
        int[] got = {50, 50, 30, 0};
        for (int baker = 0; baker < 4; baker++) {
            Check.same("the ration of baker " + baker, 12 * x.baker(baker, 5) + x.baker(baker, 3), got[baker]);
        }
    }

    // "get their ration out of their store"
    private static void rationsOutOfTheOwnStore() {
        LoafMarks x = new LoafMarks();
        x.open(900, 0);
        x.open(0, 0);
        x.open(900, 0);
        x.swear(1, 0, 10, 40);
        x.swear(2, 1, 10, 40);
        x.pass(1);
        Check.same("an empty store gives none", x.baker(0, 5), 0);
        Check.same("though another one is full", x.store(0, 0), 900);
        Check.same("the own one gives", x.store(2, 0), 860);
    }

    // "get their ration out of their store, as far as there is flour"
    private static void rationsAsFarAsThereIsFlour() {
        int[] flour = {0, 1, 46, 47, 48};
        int[] got = {0, 1, 46, 47, 47};
        for (int i = 0; i < flour.length; i++) {
            LoafMarks x = TestTown.withBaker(flour[i], 12, 47);
            x.pass(1);
            Check.same("a ration of 47 out of " + flour[i], 12 * x.baker(0, 5) + x.baker(0, 3), got[i]);
            Check.same("what is left of " + flour[i], x.store(0, 0), flour[i] - got[i]);
        }
    }

    // "In the hour 0 of a day: .. weevils eat"
    private static void weevilsInTheHour0Only() {
        LoafMarks x = new LoafMarks();
        x.open(900, 4);
        int[] eaten = {4, 4 + 6, 4 + 6 + 8};
        int[] weevils = {6, 8, 11};
        for (int hour = 0; hour < 72; hour++) {
            x.pass(1);
            Check.same("eaten behind the hour " + hour, x.store(0, 3), eaten[hour / 24]);
            Check.same("weevils behind the hour " + hour, x.store(0, 1), weevils[hour / 24]);
        }
    }

    // "Then, store by store, weevils eat": behind the bakers' rations
    private static void weevilsBehindRations() {
        LoafMarks x = new LoafMarks();
        x.open(50, 20);
        x.swear(0, 0, 12, 40);
        x.pass(1);
        Check.same("the baker got all of the ration", 12 * x.baker(0, 5) + x.baker(0, 3), 40);
        Check.same("weevils ate the rest", x.store(0, 3), 10);
        Check.same("and starved", x.store(0, 1), 10);
    }

    // "weevils eat as much flour as they are, as far as there is some"
    private static void weevilsEatAsFarAsThereIsFlour() {
        int[] flour = {0, 1, 19, 20, 21, 900};
        int[] eaten = {0, 1, 19, 20, 20, 20};
        for (int i = 0; i < flour.length; i++) {
            LoafMarks x = new LoafMarks();
            x.open(flour[i], 20);
            x.pass(1);
            Check.same("20 weevils ate of " + flour[i], x.store(0, 3), eaten[i]);
            Check.same("they left of " + flour[i], x.store(0, 0), flour[i] - eaten[i]);
        }
    }

    private static int weevilsOnTheNextDay(int flour, int weevils) {
        LoafMarks x = new LoafMarks();
        x.open(flour, weevils);
        x.pass(1);
        return x.store(0, 1);
    }

    // "if flour is left then, they are a quarter (cut) and 1 more"
    private static void weevilsGrowIfFlourIsLeft() {
        int[] before = {0, 1, 2, 3, 4, 5, 7, 8, 11, 12, 20, 39};
        int[] behind = {1, 2, 3, 4, 6, 7, 9, 11, 14, 16, 26, 49};
        for (int i = 0; i < before.length; i++) {
            int weevils = before[i];
            Check.same(weevils + " weevils, much is left", weevilsOnTheNextDay(900, weevils), behind[i]);
            Check.same(weevils + " weevils, 1 is left", weevilsOnTheNextDay(weevils + 1, weevils), behind[i]);
        }
    }

    // "otherwise half as many (cut)"
    private static void weevilsHalveIfNoneIsLeft() {
        int[] before = {0, 1, 2, 3, 4, 5, 49, 50};
        int[] behind = {0, 0, 1, 1, 2, 2, 24, 25};
        for (int i = 0; i < before.length; i++) {
            int weevils = before[i];
            Check.same(weevils + " weevils, 0 is left", weevilsOnTheNextDay(weevils, weevils), behind[i]);
            Check.same(weevils + " weevils, nothing was there", weevilsOnTheNextDay(0, weevils), behind[i]);
        }
    }

    // "a quarter (cut) and 1 more (at most 50)"
    private static void weevilsAtMost50() {
        int[] before = {38, 39, 40, 41, 49, 50};
        int[] behind = {48, 49, 50, 50, 50, 50};
        for (int i = 0; i < before.length; i++) {
            Check.same(before[i] + " weevils", weevilsOnTheNextDay(900, before[i]), behind[i]);
        }
    }

    // "if flour is left then": nothing is left where there was none, and what a cart brings in time is there
    private static void weevilsOfAnEmptyStore() {
        LoafMarks x = new LoafMarks();
        x.open(0, 8);
        x.pass(1);
        Check.same("they starve", x.store(0, 1), 4);
        x.setGate(0, 5);
        x.pass(24);
        Check.same("a cart came before them", x.store(0, 3), 4);
        Check.same("and 1 is left, so that they grow", x.store(0, 1), 6);
        Check.same("1 is left", x.store(0, 0), 1);
    }

    // "store by store, weevils eat"
    private static void weevilsStoreByStore() {
        LoafMarks x = new LoafMarks();
        x.open(10, 20);
        x.open(900, 20);
        x.open(0, 20);
        x.open(20, 20);
        x.pass(1);
        int[] flour = {0, 880, 0, 0};
        int[] weevils = {10, 26, 10, 10};
        int[] eaten = {10, 20, 0, 20};
        for (int store = 0; store < 4; store++) {
            Check.same("flour of store " + store, x.store(store, 0), flour[store]);
            Check.same("weevils of store " + store, x.store(store, 1), weevils[store]);
            Check.same("eaten in store " + store, x.store(store, 3), eaten[store]);
        }
    }

    // "as many loaves as they have flour at hand for by the weight"
    private static void bakersBakeByTheWeight() {
        for (int weight = 5; weight < 13; weight++) {
            int[] ration = {0, weight - 1, weight, weight + 1, 2 * weight - 1, 2 * weight, 4 * weight - 1, 4 * weight};
            int[] loaves = {0, 0, 1, 1, 1, 2, 3, 4};
            for (int i = 0; i < ration.length; i++) {
                LoafMarks x = TestTown.withBaker(900, weight, ration[i]);
                x.pass(1);
                Check.same(ration[i] + " at hand, weight " + weight, x.baker(0, 5), loaves[i]);
            }
        }
    }

    // "each bake .., at most 4"
    private static void bakersBakeAtMostFour() {
        LoafMarks x = TestTown.withBaker(900, 5, 49);
        int[] loaves = {4, 8, 9, 9};
        for (int hour = 0; hour < 4; hour++) {
            x.pass(1);
            Check.same("loaves behind the hour " + hour, x.baker(0, 5), loaves[hour]);
        }
        LoafMarks y = TestTown.withBaker(900, 5, 90);
        y.swear(0, 1, 5, 90);
        y.pass(1);
        Check.same("each of two: 4", y.count(4), 8);
    }

    // "Bakers who are not barred each bake"
    private static void bakersWhoAreBarredBakeNothing() {
        LoafMarks x = TestTown.withBaker(900, 9, 90);
        x.swear(0, 1, 9, 90);
        x.pass(1);
        x.weigh(0);
        x.pass(2);
        Check.same("who is barred", x.baker(0, 5), 3);
        Check.same("whose flour at hand stays", x.baker(0, 3), 54);
        Check.same("who is not", x.baker(1, 5), 10);
        x.pass(240);
        Check.same("it stays for days", x.baker(0, 3), 54);
    }

    // "this flour is gone"
    private static void bakedFlourIsGone() {
        LoafMarks x = TestTown.withBaker(900, 12, 90);
        int[] atHand = {42, 6, 6};
        for (int hour = 0; hour < 3; hour++) {
            x.pass(1);
            Check.same("at hand behind the hour " + hour, x.baker(0, 3), atHand[hour]);
        }
        Check.same("it is not in the store", x.store(0, 0), 810);
    }

    // "as many loaves as they have flour at hand for": no most is named for the loaves on a shelf
    private static void loavesHaveNoMost() {
        LoafMarks x = TestTown.withBaker(900, 5, 90);
        x.setPeople(0);
        x.setGate(6, 99);
        x.setGate(18, 99);
        for (int i = 0; i < 500; i++) {
            x.pass(240);
        }
        Check.same("18 loaves a day, for 5000 days", x.baker(0, 5), 90000);
        Check.same("on all shelves", x.count(4), 90000);
        x.setPeople(500);
        Check.same("enough for all", x.pass(240), 0);
        Check.same("10 days on", x.baker(0, 5), 90000 + 180 - 5000);
    }

    // Step 2 is before step 3: the ration is there when they bake.
    private static void bakersBakeInTheHourOfTheirRation() {
        LoafMarks x = TestTown.withBaker(10, 10, 10);
        x.pass(1);
        Check.same("baked in the hour 0", x.baker(0, 5), 1);
        Check.same("nothing at hand", x.baker(0, 3), 0);
    }

    // Step 3 is before step 4: what is baked in the hour 12 is bought in it.
    private static void bakersBakeBeforeNoonsSale() {
        LoafMarks x = TestTown.withBaker(900, 9, 90);
        x.pass(1);
        x.weigh(0);
        x.pass(11);
        x.pardon(0);
        x.setPeople(7);
        Check.same("3 of the hour 0, and 4 of the hour 12", x.pass(1), 0);
        Check.same("all are bought", x.baker(0, 5), 0);
    }

    // "In the hour 12 of a day .. loaves .. are bought"
    private static void loavesAreBoughtInTheHour12Only() {
        LoafMarks x = TestTown.withBaker(900, 10, 90);
        x.setPeople(1);
        for (int hour = 0; hour < 50; hour++) {
            x.pass(1);
            Check.same("bought behind the hour " + hour, x.count(5), (hour + 12) / 24);
        }
    }

    // "as many loaves as people are bought"
    private static void loavesAsManyAsPeople() {
        int[] people = {0, 1, 8, 9};
        for (int buyers : people) {
            LoafMarks x = TestTown.withBaker(900, 10, 90);
            x.setPeople(buyers);
            Check.same("enough for " + buyers, x.pass(13), 0);
            Check.same("bought by " + buyers, x.count(5), buyers);
            Check.same("left by " + buyers, x.count(4), 9 - buyers);
        }
    }

    // "are bought, as far as there are some"
    private static void loavesAsFarAsThereAre() {
        LoafMarks x = TestTown.withBaker(900, 10, 90);
        x.setPeople(10);
        Check.same("one too few", x.pass(13), 1);
        Check.same("bought", x.count(5), 9);
        Check.same("none is left", x.count(4), 0);
        LoafMarks y = TestTown.withBaker(0, 10, 90);
        Check.same("empty shelves", y.pass(13), 20);
        Check.same("none is bought", y.count(5), 0);
    }

    // "first those of the baker with the smallest number, and so on"
    private static void loavesOfTheSmallestNumberFirst() {
        int[][] bought = {{0, 0, 0}, {2, 0, 0}, {3, 0, 0}, {3, 1, 0}, {3, 4, 0}, {3, 4, 1}, {3, 4, 5}, {3, 4, 5}};
        int[] people = {0, 2, 3, 4, 7, 8, 12, 13};
        for (int i = 0; i < people.length; i++) {
            LoafMarks x = new LoafMarks();
            x.open(900, 0);
            x.swear(0, 25, 10, 30);
            x.swear(0, 0, 10, 40);
            x.swear(0, 12, 10, 50);
            x.setPeople(people[i]);
            x.pass(13);
            for (int baker = 0; baker < 3; baker++) {
                Check.same(people[i] + " buy of baker " + baker, x.baker(baker, 6), bought[i][baker]);
            }
        }
    }

    // "(also of those who are barred)"
    private static void loavesOfBarredBakers() {
        LoafMarks x = TestTown.withBaker(900, 9, 36);
        x.swear(0, 1, 10, 40);
        x.pass(1);
        x.weigh(0);
        x.setPeople(4);
        Check.same("enough", x.pass(12), 0);
        Check.same("theirs are bought, and first", x.baker(0, 6), 3);
        Check.same("then those of the next", x.baker(1, 6), 1);
    }

    // "People without one go hungry"
    private static void peopleWithoutOneGoHungry() {
        LoafMarks x = TestTown.withBaker(900, 10, 20);
        x.setPeople(500);
        Check.same("498 go hungry", x.pass(13), 498);
        Check.same("count(7)", x.count(7), 498);
        Check.same("and on the next day", x.pass(24), 498);
        Check.same("count(7) in all", x.count(7), 996);
    }

    // "a loaf with a weight of less than 10 is a light one"
    private static void loavesBelow10AreLight() {
        for (int weight = 5; weight < 13; weight++) {
            LoafMarks x = TestTown.withBaker(900, weight, weight);
            x.pass(13);
            Check.same("bought, of weight " + weight, x.count(5), 1);
            Check.same("light, of weight " + weight, x.count(6), weight < 10 ? 1 : 0);
        }
    }

    // "The hour is 1 greater."
    private static void theHourIsOneGreater() {
        LoafMarks x = new LoafMarks();
        for (int hour = 1; hour < 30; hour++) {
            x.pass(1);
            Check.same("behind " + hour + " hours", x.count(0), hour);
        }
    }
}
