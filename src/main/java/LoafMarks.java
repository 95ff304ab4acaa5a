/** Bakers of a town under siege. */
public final class LoafMarks {
    private static final int HOURS_OF_DAY = 24;
    private static final int NOON = 12;

    private static final int FIRST_PEOPLE = 20;
    private static final int MOST_PEOPLE = 500;
    private static final int MOST_CART_FLOUR = 99;

    private static final int MOST_STORES = 4;
    private static final int MOST_FLOUR = 900;
    private static final int MOST_WEEVILS = 50;

    private static final int MOST_BAKERS = 6;
    private static final int MOST_MARK = 25;
    private static final int LEAST_WEIGHT = 5;
    private static final int MOST_WEIGHT = 12;
    private static final int FAIR_WEIGHT = 10;
    private static final int MOST_RATION = 90;
    private static final int MOST_BAKED = 4;

    private static final int MOST_HOURS = 240;
    private static final int MOST_HOURS_ADVISED = 96;
    private static final int MOST_HOURS_LASTED = 480;
    private static final int RATION_STEP = 10;

    private static final int STORE_FACTS = 4;
    private static final int BAKER_FACTS = 8;
    private static final int TOWN_FACTS = 10;
    private static final int PROSPECTS = 4;

    private static final long DIGEST_START = 1051L;

    private final Town town;
    // What would be is tried out here, so that those calls need not make a town each.
    private final Town trial;

    public LoafMarks() {
        town = new Town();
        trial = new Town();
    }

    // ---- town and stores

    public int setPeople(int people) throws IllegalArgumentException {
        if (!isWithin(people, 0, MOST_PEOPLE)) {
            throw new IllegalArgumentException("people is not 0 to 500");
        }
        int before = town.people;
        town.people = people;
        return before;
    }

    public int setGate(int hour, int flour)
            throws IndexOutOfBoundsException, IllegalArgumentException {
        if (!isWithin(hour, 0, HOURS_OF_DAY - 1)) {
            throw new IndexOutOfBoundsException("hour is not 0 to 23");
        }
        if (!isWithin(flour, 0, MOST_CART_FLOUR)) {
            throw new IllegalArgumentException("flour is not 0 to 99");
        }
        return town.changeGate(hour, flour);
    }

    public int open(int flour, int weevils)
            throws IllegalArgumentException, IllegalStateException {
        if (!isWithin(flour, 0, MOST_FLOUR)) {
            throw new IllegalArgumentException("flour is not 0 to 900");
        }
        if (!isWithin(weevils, 0, MOST_WEEVILS)) {
            throw new IllegalArgumentException("weevils is not 0 to 50");
        }
        int number = town.addStore(flour, weevils);
        if (number < 0) {
            throw new IllegalStateException("there are 4 stores");
        }
        return number;
    }

    public int smoke(int store) throws IndexOutOfBoundsException {
        Store smoked = town.storeAt(store);
        if (smoked == null) {
            throw new IndexOutOfBoundsException("there is no such store");
        }
        return smoked.smokeOut();
    }

    // ---- bakers

    public int swear(int store, int mark, int weight, int ration)
            throws IndexOutOfBoundsException, IllegalArgumentException, IllegalStateException {
        if (town.storeAt(store) == null) {
            throw new IndexOutOfBoundsException("there is no such store");
        }
        if (!isWithin(mark, 0, MOST_MARK)) {
            throw new IllegalArgumentException("mark is not 0 to 25");
        }
        if (!isWithin(weight, LEAST_WEIGHT, MOST_WEIGHT)) {
            throw new IllegalArgumentException("weight is not 5 to 12");
        }
        if (!isWithin(ration, 0, MOST_RATION)) {
            throw new IllegalArgumentException("ration is not 0 to 90");
        }
        if (town.bakerWithMark(mark) >= 0) {
            throw new IllegalStateException("another baker has this mark");
        }
        int number = town.addBaker(store, mark, weight, ration);
        if (number < 0) {
            throw new IllegalStateException("there are 6 bakers");
        }
        return number;
    }

    public int deal(int baker, int ration)
            throws IndexOutOfBoundsException, IllegalArgumentException {
        Baker dealt = town.bakerAt(baker);
        if (dealt == null) {
            throw new IndexOutOfBoundsException("there is no such baker");
        }
        if (!isWithin(ration, 0, MOST_RATION)) {
            throw new IllegalArgumentException("ration is not 0 to 90");
        }
        int before = dealt.ration;
        dealt.ration = ration;
        return before;
    }

    public int weigh(int baker) throws IndexOutOfBoundsException, IllegalStateException {
        Baker weighed = town.bakerAt(baker);
        if (weighed == null) {
            throw new IndexOutOfBoundsException("there is no such baker");
        }
        if (weighed.shelf <= 0) {
            throw new IllegalStateException("there is no loaf on the shelf");
        }
        return weighed.inspect();
    }

    public boolean pardon(int baker) throws IndexOutOfBoundsException {
        Baker pardoned = town.bakerAt(baker);
        if (pardoned == null) {
            throw new IndexOutOfBoundsException("there is no such baker");
        }
        return pardoned.forgive();
    }

    // ---- what is there

    public int store(int store, int what) throws IndexOutOfBoundsException {
        if (town.storeAt(store) == null) {
            throw new IndexOutOfBoundsException("there is no such store");
        }
        if (!isWithin(what, 0, STORE_FACTS - 1)) {
            throw new IndexOutOfBoundsException("what is not 0 to 3");
        }
        return town.storeFact(store, what);
    }

    public int baker(int baker, int what) throws IndexOutOfBoundsException {
        Baker asked = town.bakerAt(baker);
        if (asked == null) {
            throw new IndexOutOfBoundsException("there is no such baker");
        }
        if (!isWithin(what, 0, BAKER_FACTS - 1)) {
            throw new IndexOutOfBoundsException("what is not 0 to 7");
        }
        return asked.fact(what);
    }

    public int whose(int mark) throws IllegalArgumentException {
        if (!isWithin(mark, 0, MOST_MARK)) {
            throw new IllegalArgumentException("mark is not 0 to 25");
        }
        return town.bakerWithMark(mark);
    }

    public int count(int what) throws IndexOutOfBoundsException {
        if (!isWithin(what, 0, TOWN_FACTS - 1)) {
            throw new IndexOutOfBoundsException("what is not 0 to 9");
        }
        return town.fact(what);
    }

    // ---- hours

    public int pass(int hours) throws IllegalArgumentException {
        if (!isWithin(hours, 1, MOST_HOURS)) {
            throw new IllegalArgumentException("hours is not 1 to 240");
        }
        return town.goThrough(hours);
    }

    // ---- what would be

    public int lasts() {
        trial.becomeLike(town);
        for (int hours = 1; hours <= MOST_HOURS_LASTED; hours++) {
            if (trial.goThroughHour() > 0) {
                return hours;
            }
        }
        return -1;
    }

    public int foresee(int hours, int what)
            throws IllegalArgumentException, IndexOutOfBoundsException {
        if (!isWithin(hours, 1, MOST_HOURS)) {
            throw new IllegalArgumentException("hours is not 1 to 240");
        }
        if (!isWithin(what, 0, PROSPECTS - 1)) {
            throw new IndexOutOfBoundsException("what is not 0 to 3");
        }
        trial.becomeLike(town);
        int hungry = trial.goThrough(hours);
        switch (what) {
            case 0:
                return hungry;
            case 1:
                return trial.flourOfAll();
            case 2:
                return trial.loavesOfAll();
            default:
                return trial.weevilsOfAll();
        }
    }

    public int advise(int baker, int hours)
            throws IndexOutOfBoundsException, IllegalArgumentException {
        if (town.bakerAt(baker) == null) {
            throw new IndexOutOfBoundsException("there is no such baker");
        }
        if (!isWithin(hours, 1, MOST_HOURS_ADVISED)) {
            throw new IllegalArgumentException("hours is not 1 to 96");
        }
        int best = 0;
        int leastHungry = hungryWithRation(baker, 0, hours);
        for (int ration = RATION_STEP; ration <= MOST_RATION; ration += RATION_STEP) {
            int hungry = hungryWithRation(baker, ration, hours);
            if (hungry < leastHungry) {
                best = ration;
                leastHungry = hungry;
            }
        }
        return best;
    }

    public double share() {
        if (town.bought == 0) {
            return 0;
        }
        return (double) town.light / (double) town.bought;
    }

    public long digest() {
        long d = DIGEST_START;
        for (int what = 0; what < TOWN_FACTS; what++) {
            d = mixIn(d, town.fact(what));
        }
        for (int hour = 0; hour < HOURS_OF_DAY; hour++) {
            d = mixIn(d, town.gateAt(hour));
        }
        d = mixInStores(d);
        return mixInBakers(d);
    }

    private static boolean isWithin(int number, int least, int most) {
        return number >= least && number <= most;
    }

    private int hungryWithRation(int baker, int ration, int hours) {
        trial.becomeLike(town);
        Baker tried = trial.bakerAt(baker);
        if (tried != null) {
            tried.ration = ration;
        }
        return trial.goThrough(hours);
    }

    private static long mixIn(long d, int x) {
        return d * 31 + x;
    }

    private long mixInStores(long start) {
        long d = start;
        for (int store = 0; store < MOST_STORES; store++) {
            if (town.storeAt(store) != null) {
                for (int what = 0; what < STORE_FACTS; what++) {
                    d = mixIn(d, town.storeFact(store, what));
                }
            }
        }
        return d;
    }

    private long mixInBakers(long start) {
        long d = start;
        for (int baker = 0; baker < MOST_BAKERS; baker++) {
            Baker told = town.bakerAt(baker);
            if (told != null) {
                for (int what = 0; what < BAKER_FACTS; what++) {
                    d = mixIn(d, told.fact(what));
                }
            }
        }
        return d;
    }

    private static final class Store {
        int flour;
        int weevils;
        int eaten;

        Store(int flour, int weevils) {
            this.flour = flour;
            this.weevils = weevils;
        }

        void becomeLike(Store other) {
            flour = other.flour;
            weevils = other.weevils;
            eaten = other.eaten;
        }

        /** Takes in what there is room for, and returns the rest. */
        int takeIn(int load) {
            int taken = Math.min(load, MOST_FLOUR - flour);
            flour += taken;
            return load - taken;
        }

        /** Gives out what is wanted, as far as there is flour, and returns it. */
        int giveOut(int wanted) {
            int given = Math.min(wanted, flour);
            flour -= given;
            return given;
        }

        void feedWeevils() {
            eaten += giveOut(weevils);
            if (flour > 0) {
                weevils = Math.min(weevils + weevils / 4 + 1, MOST_WEEVILS);
            } else {
                weevils = weevils / 2;
            }
        }

        /** Returns the weevils that there were. */
        int smokeOut() {
            int before = weevils;
            weevils = 0;
            flour -= flour / 10;
            return before;
        }
    }

    private static final class Baker {
        int storeNumber;
        int mark;
        int ration;
        int atHand;
        int weight;
        int shelf;
        int sold;
        boolean barred;

        Baker(int storeNumber, int mark, int weight, int ration) {
            this.storeNumber = storeNumber;
            this.mark = mark;
            this.weight = weight;
            this.ration = ration;
        }

        void becomeLike(Baker other) {
            storeNumber = other.storeNumber;
            mark = other.mark;
            ration = other.ration;
            atHand = other.atHand;
            weight = other.weight;
            shelf = other.shelf;
            sold = other.sold;
            barred = other.barred;
        }

        boolean bakesLight() {
            return weight < FAIR_WEIGHT;
        }

        void bake() {
            if (barred || weight <= 0) {
                return;
            }
            int loaves = Math.min(atHand / weight, MOST_BAKED);
            atHand -= loaves * weight;
            shelf += loaves;
        }

        /** Returns how many loaves so many buyers get. */
        int sell(int buyers) {
            int loaves = Math.min(buyers, shelf);
            shelf -= loaves;
            sold += loaves;
            return loaves;
        }

        /** Takes a loaf from the shelf, and returns its weight. */
        int inspect() {
            shelf--;
            if (bakesLight()) {
                barred = true;
            }
            return weight;
        }

        /** Returns whether this baker was barred. */
        boolean forgive() {
            boolean before = barred;
            barred = false;
            weight = Math.max(weight, FAIR_WEIGHT);
            return before;
        }

        int fact(int what) {
            switch (what) {
                case 0:
                    return storeNumber;
                case 1:
                    return mark;
                case 2:
                    return ration;
                case 3:
                    return atHand;
                case 4:
                    return weight;
                case 5:
                    return shelf;
                case 6:
                    return sold;
                default:
                    return barred ? 1 : 0;
            }
        }
    }

    /** The places of stores and bakers who are not there yet are null, behind all who are. */
    private static final class Town {
        private final int[] gate = new int[HOURS_OF_DAY];
        private final Store[] stores = new Store[MOST_STORES];
        private final Baker[] bakers = new Baker[MOST_BAKERS];
        private int hour;
        int people = FIRST_PEOPLE;
        int bought;
        int light;
        private int hungry;
        private int lost;

        // Its own stores and bakers are used again, as a trial is made very often.
        void becomeLike(Town other) {
            hour = other.hour;
            people = other.people;
            bought = other.bought;
            light = other.light;
            hungry = other.hungry;
            lost = other.lost;
            for (int i = 0; i < gate.length; i++) {
                gate[i] = other.gateAt(i);
            }
            copyStores(other);
            copyBakers(other);
        }

        private void copyStores(Town other) {
            for (int i = 0; i < stores.length; i++) {
                Store copied = other.storeAt(i);
                if (copied == null) {
                    stores[i] = null;
                } else {
                    Store own = stores[i] == null ? new Store(0, 0) : stores[i];
                    own.becomeLike(copied);
                    stores[i] = own;
                }
            }
        }

        private void copyBakers(Town other) {
            for (int i = 0; i < bakers.length; i++) {
                Baker copied = other.bakerAt(i);
                if (copied == null) {
                    bakers[i] = null;
                } else {
                    Baker own = bakers[i] == null ? new Baker(0, 0, 0, 0) : bakers[i];
                    own.becomeLike(copied);
                    bakers[i] = own;
                }
            }
        }

        int gateAt(int hourOfDay) {
            return hourOfDay >= 0 && hourOfDay < gate.length ? gate[hourOfDay] : 0;
        }

        /** Returns what carts brought before. */
        int changeGate(int hourOfDay, int flour) {
            int before = gateAt(hourOfDay);
            if (hourOfDay >= 0 && hourOfDay < gate.length) {
                gate[hourOfDay] = flour;
            }
            return before;
        }

        /** Returns the store with this number, null if there is none. */
        Store storeAt(int number) {
            return number >= 0 && number < stores.length ? stores[number] : null;
        }

        /** Returns the baker with this number, null if there is none. */
        Baker bakerAt(int number) {
            return number >= 0 && number < bakers.length ? bakers[number] : null;
        }

        /** Returns the new store's number, -1 if there is no place for one more. */
        int addStore(int flour, int weevils) {
            for (int i = 0; i < stores.length; i++) {
                if (stores[i] == null) {
                    stores[i] = new Store(flour, weevils);
                    return i;
                }
            }
            return -1;
        }

        /** Returns the new baker's number, -1 if there is no place for one more. */
        int addBaker(int storeNumber, int mark, int weight, int ration) {
            for (int i = 0; i < bakers.length; i++) {
                if (bakers[i] == null) {
                    bakers[i] = new Baker(storeNumber, mark, weight, ration);
                    return i;
                }
            }
            return -1;
        }

        /** Returns the number of the baker with this mark, -1 if nobody has it. */
        int bakerWithMark(int mark) {
            for (int i = 0; i < bakers.length; i++) {
                Baker asked = bakers[i];
                if (asked != null && asked.mark == mark) {
                    return i;
                }
            }
            return -1;
        }

        /** Returns how often people go hungry in these hours. */
        int goThrough(int hours) {
            int unfed = 0;
            for (int i = 0; i < hours; i++) {
                unfed += goThroughHour();
            }
            return unfed;
        }

        /** Returns how often people go hungry in this hour. */
        int goThroughHour() {
            int hourOfDay = hourOfDay();
            unloadCarts(gateAt(hourOfDay));
            if (hourOfDay == 0) {
                dealRations();
                feedAllWeevils();
            }
            bakeAll();
            int unfed = hourOfDay == NOON ? sellAtNoon() : 0;
            hour++;
            return unfed;
        }

        // floorMod, so that the hour of the day is one even where the hour has wrapped around.
        private int hourOfDay() {
            return Math.floorMod(hour, HOURS_OF_DAY);
        }

        private void unloadCarts(int load) {
            Store emptiest = emptiestStore();
            if (emptiest != null) {
                lost += emptiest.takeIn(load);
            }
        }

        private Store emptiestStore() {
            Store emptiest = null;
            for (Store s : stores) {
                if (s != null && (emptiest == null || s.flour < emptiest.flour)) {
                    emptiest = s;
                }
            }
            return emptiest;
        }

        private void dealRations() {
            for (Baker b : bakers) {
                if (b != null && !b.barred) {
                    Store from = storeAt(b.storeNumber);
                    if (from != null) {
                        b.atHand += from.giveOut(b.ration);
                    }
                }
            }
        }

        private void feedAllWeevils() {
            for (Store s : stores) {
                if (s != null) {
                    s.feedWeevils();
                }
            }
        }

        private void bakeAll() {
            for (Baker b : bakers) {
                if (b != null) {
                    b.bake();
                }
            }
        }

        /** Returns how many people go hungry. */
        private int sellAtNoon() {
            int unfed = people;
            for (Baker b : bakers) {
                if (b != null) {
                    int loaves = b.sell(unfed);
                    unfed -= loaves;
                    bought += loaves;
                    if (b.bakesLight()) {
                        light += loaves;
                    }
                }
            }
            hungry += unfed;
            return unfed;
        }

        int flourOfAll() {
            int sum = 0;
            for (Store s : stores) {
                if (s != null) {
                    sum += s.flour;
                }
            }
            return sum;
        }

        int weevilsOfAll() {
            int sum = 0;
            for (Store s : stores) {
                if (s != null) {
                    sum += s.weevils;
                }
            }
            return sum;
        }

        int loavesOfAll() {
            int sum = 0;
            for (Baker b : bakers) {
                if (b != null) {
                    sum += b.shelf;
                }
            }
            return sum;
        }

        private int bakersOfStore(int storeNumber) {
            int sum = 0;
            for (Baker b : bakers) {
                if (b != null && b.storeNumber == storeNumber) {
                    sum++;
                }
            }
            return sum;
        }

        private int barredBakers() {
            int sum = 0;
            for (Baker b : bakers) {
                if (b != null && b.barred) {
                    sum++;
                }
            }
            return sum;
        }

        int storeFact(int number, int what) {
            Store asked = storeAt(number);
            if (asked == null) {
                return 0;
            }
            switch (what) {
                case 0:
                    return asked.flour;
                case 1:
                    return asked.weevils;
                case 2:
                    return bakersOfStore(number);
                default:
                    return asked.eaten;
            }
        }

        int fact(int what) {
            switch (what) {
                case 0:
                    return hour;
                case 1:
                    return hourOfDay();
                case 2:
                    return people;
                case 3:
                    return flourOfAll();
                case 4:
                    return loavesOfAll();
                case 5:
                    return bought;
                case 6:
                    return light;
                case 7:
                    return hungry;
                case 8:
                    return barredBakers();
                default:
                    return lost;
            }
        }
    }
}
