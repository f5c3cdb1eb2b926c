/** Runs with as many places, objects, doors, plans and rows as the document lets be. */
final class FullTest {
    public static void main(String[] args) {
        placesInPlaces();
        boxesInBoxes();
        lastOverManyRows();
        manyDoors();
        manyPlans();
        rowsOfEachObject();
        Checks.end();
    }

    /** Place n lies in place n - 1, and object n fits into object n - 1. */
    private static Run full(int grams) {
        Run x = new Run();
        for (int n = 0; n < 24; n++) {
            x.place(n - 1, 1000000000);
        }
        for (int n = 0; n < 20; n++) {
            x.object(100 - n, 200 - n, 300 - n, grams);
            x.box(n);
        }
        return x;
    }

    private static void placesInPlaces() {
        Run x = full(1000000);
        for (int n = 0; n < 20; n++) {
            int object = n;
            Checks.answers("object " + n, 0, () -> x.move(object, 23 - object, 1, 0, 0));
        }
        for (int p = 0; p < 24; p++) {
            Checks.same("used " + p, 1000000L * Math.min(20, 24 - p), x.used(p, 1));
        }
        x.quiet(22, 2, 2);
        Checks.answers("out of 22", 1, () -> x.move(0, 21, 2, 0, 0));
        Checks.answers("within 22", 0, () -> x.move(0, 22, 2, 0, 0));
    }

    private static void boxesInBoxes() {
        Run x = full(5);
        for (int n = 19; n > 0; n--) {
            int object = n;
            Checks.answers("box " + n, 0, () -> x.into(object, object - 1, 1));
        }
        Checks.same("nowhere", -1, x.where(19, 1));
        Checks.same("never anywhere", -1, x.last(19));
        Checks.answersIdly(x, "the outermost into the innermost", 1, () -> x.into(0, 19, 1));
        x.move(0, 23, 2, 0, 0);
        Checks.same("where the outermost is", 23, x.where(19, 2));
        Checks.same("all of them", 100, x.used(0, 2));
        x.lost(0, 3);
        Checks.same("lost with the outermost", -1, x.where(19, 3));
        Checks.same("where the outermost was", 23, x.last(19));
        Checks.answersIdly(x, "into the innermost, though all are lost", 1, () -> x.into(0, 19, 3));
        Checks.answers("out of all", 0, () -> x.move(19, 5, 3, 0, 0));
        Checks.answersIdly(x, "it holds none of them now", 2, () -> x.into(0, 19, 3));
    }

    private static void lastOverManyRows() {
        Run x = full(5);
        x.move(19, 7, 0, 0, 0);
        for (int n = 0; n < 39; n++) {
            x.into(19, 18, 1 + 2 * n);
            x.into(18, 17, 2 + 2 * n);
        }
        Checks.same("at hour 0, before 78 other hours", 7, x.last(19));
        Checks.same("that one was nowhere ever", -1, x.last(18));
    }

    private static void manyDoors() {
        Run x = full(5);
        for (int n = 0; n < 38; n++) {
            x.door(0, 1, 1, 1);
        }
        x.door(22, 23, 1000, 1000);
        x.door(23, 0, 1000, 1000);
        x.move(0, 0, 1, 0, 0);
        Checks.same("through the last door", 1, x.way(0, 23));
        Checks.same("through the last two", 2, x.way(0, 22));
        Checks.same("the other doors are too small", -1, x.way(0, 1));
    }

    private static void manyPlans() {
        Run x = full(1000000);
        for (int n = 0; n < 30; n++) {
            int number = n;
            Checks.answers("plan " + n, 0, () -> x.planned(number % 20, number % 24, number, 1000000));
        }
        Checks.same("all objects by plans", 20000000, x.used(0, 1000000));
        Checks.same("the first plan alone", 1000000, x.used(0, 0));
        Checks.same("the innermost", 1000000, x.used(23, 29));
        Checks.answers("a move beside all plans", 0, () -> x.move(0, 23, 0, 0, 0));
        Checks.same("two in the innermost", 2000000, x.used(23, 29));
    }

    /** Each object in turn, as no run of 512 calls can give 40 rows to all. */
    private static void rowsOfEachObject() {
        for (int object = 0; object < 20; object++) {
            Run x = full(5);
            for (int k = 0; k < 40; k++) {
                x.move(object, (object + k) % 24, 2 * k, 0, 0);
            }
            Checks.same("rows of all", 40, x.count(5));
            for (int k = 0; k < 40; k++) {
                int place = (object + k) % 24;
                Checks.same("the hour of row " + k, 2 * k, x.history(object, k, 0));
                Checks.same("the place of row " + k, place, x.history(object, k, 2));
                Checks.same("where at its hour", place, x.where(object, 2 * k));
                Checks.same("where at the next hour", place, x.where(object, 2 * k + 1));
            }
        }
    }
}
