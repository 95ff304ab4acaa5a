/** Two days and a half of a town under siege. */
public final class Siege {
    public static void main(String[] args) {
        LoafMarks town = new LoafMarks();
        int store = town.open(300, 4);
        int honest = town.swear(store, 3, 10, 60);
        int light = town.swear(store, 7, 8, 40);
        town.setPeople(8);
        town.setGate(6, 20);

        System.out.println("people go hungry first behind " + town.lasts() + " hours");
        System.out.println("in two days they will be hungry " + town.foresee(48, 0) + " times");
        System.out.println("the best ration of baker " + honest + " is " + town.advise(honest, 48));

        System.out.println("hungry until the afternoon: " + town.pass(14));
        System.out.println("the loaf with mark 7 is of baker " + town.whose(7));
        System.out.println("it weighs " + town.weigh(light));
        System.out.println("its baker is barred: " + (town.baker(light, 7) == 1));

        System.out.println("hungry in the next two days: " + town.pass(48));
        System.out.println("weevils: " + town.store(store, 1) + ", flour: " + town.count(3));
        System.out.println("light loaves among all: " + town.share());
        try {
            town.swear(store, 7, 10, 30);
        } catch (IllegalStateException e) {
            System.out.println("nobody else can have mark 7");
        }
    }
}
