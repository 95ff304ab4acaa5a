/** Towns that several tests start from. */
final class TestTown {
    private TestTown() {
    }

    /** One store without weevils, one baker with the mark 0, and 20 people. */
    static LoafMarks withBaker(int flour, int weight, int ration) {
        LoafMarks x = new LoafMarks();
        x.open(flour, 0);
        x.swear(0, 0, weight, ration);
        return x;
    }

    static LoafMarks fullOfStores(int flour, int weevils) {
        LoafMarks x = new LoafMarks();
        for (int store = 0; store < 4; store++) {
            x.open(flour, weevils);
        }
        return x;
    }

    /** Four stores, and six bakers with the marks 0, 4, 8 and so on; the weights are 5, 6 and so on up to 10. */
    static LoafMarks full() {
        LoafMarks x = new LoafMarks();
        for (int store = 0; store < 4; store++) {
            x.open(900 - 100 * store, 10 * store);
        }
        for (int baker = 0; baker < 6; baker++) {
            x.swear(baker % 4, 4 * baker, 5 + baker, 40 + baker);
        }
        return x;
    }

    static boolean refused(Runnable call) {
        try {
            call.run();
        } catch (IllegalArgumentException | IllegalStateException | IndexOutOfBoundsException e) {
            return true;
        }
        return false;
    }
}
