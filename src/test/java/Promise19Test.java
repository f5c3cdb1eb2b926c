/** Promise 19: count. */
final class Promise19Test {
    public static void main(String[] args) {
        Heading promise = new Heading("Promise 19: count");
        promise.says("0 places, 1 objects, 2 doors, 3 plans, 4 the present hour, 5 rows of all objects.",
                Promise19Test::each);
        promise.says("0 places, 1 objects, 2 doors, 3 plans, 4 the present hour, 5 rows of all objects.",
                Promise19Test::ofANewObject);
        promise.says("0 places, 1 objects, 2 doors, 3 plans, 4 the present hour, 5 rows of all objects.",
                Promise19Test::full);
        promise.says("5 rows of all objects", Promise19Test::rowsOfAllKinds);
        promise.says("IllegalArgumentException: none of these.", Promise19Test::noneOfThese);
        Checks.end();
    }

    private static void counts(Run x, int... due) {
        for (int what = 0; what < due.length; what++) {
            Checks.same("count " + what, due[what], x.count(what));
        }
    }

    private static void each() {
        Run x = new Run();
        x.place(-1, 100);
        counts(x, 1, 0, 0, 0, 0, 0);
        x.place(0, 100);
        x.object(1, 1, 1, 1);
        counts(x, 2, 1, 0, 0, 0, 0);
        x.object(1, 1, 1, 1);
        x.object(1, 1, 1, 1);
        x.door(0, 1, 5, 5);
        counts(x, 2, 3, 1, 0, 0, 0);
        x.planned(0, 0, 3, 9);
        x.planned(0, 0, 3, 9);
        counts(x, 2, 3, 1, 2, 0, 0);
        x.move(0, 0, 7, 0, 0);
        counts(x, 2, 3, 1, 2, 7, 1);
        x.quiet(0, 50, 60);
        x.box(0);
        x.keys(0, 1);
        x.key(0, true);
        counts(x, 2, 3, 1, 2, 7, 1);
    }

    private static void ofANewObject() {
        counts(new Run(), 0, 0, 0, 0, 0, 0);
    }

    private static void full() {
        Run x = new Run();
        for (int n = 0; n < 24; n++) {
            x.place(-1, 100);
        }
        for (int n = 0; n < 20; n++) {
            x.object(1, 1, 1, 1);
        }
        for (int n = 0; n < 40; n++) {
            x.door(0, 1, 5, 5);
        }
        for (int n = 0; n < 30; n++) {
            x.planned(0, 0, 5, 5);
        }
        for (int n = 0; n < 200; n++) {
            x.move(n / 10, n % 24, 1000000, 0, 0);
        }
        counts(x, 24, 20, 40, 30, 1000000, 200);
    }

    private static void rowsOfAllKinds() {
        Run x = new Run();
        x.place(-1, 100);
        x.object(9, 9, 9, 1);
        x.object(5, 5, 5, 1);
        x.box(0);
        x.move(0, 0, 1, 0, 0);
        x.into(1, 0, 1);
        x.lost(0, 1);
        x.into(1, 0, 1);
        counts(x, 1, 2, 0, 0, 1, 4);
        x.into(0, 1, 1);
        x.lost(0, 1);
        x.planned(0, 0, 2, 3);
        counts(x, 1, 2, 0, 1, 1, 4);
    }

    private static void noneOfThese() {
        Run x = new Run();
        Checks.onlyWithin(x, "of a new object, what", 0, 5, what -> x.count(what));
        x.place(-1, 100);
        x.object(1, 1, 1, 1);
        x.move(0, 0, 5, 0, 0);
        Checks.onlyWithin(x, "what", 0, 5, what -> x.count(what));
    }
}
