/** Promise 3: object. */
final class Promise03Test {
    public static void main(String[] args) {
        Heading promise = new Heading("Promise 3: object");
        promise.says("An object, nowhere", Promise03Test::nowhere);
        promise.says("its number", Promise03Test::numbers);
        promise.says("IllegalArgumentException: a size", Promise03Test::sizes);
        promise.says("or grams", Promise03Test::grams);
        promise.says("IllegalStateException: there are 20.", Promise03Test::full);
        Checks.end();
    }

    private static void nowhere() {
        Run x = new Run();
        x.place(-1, 100);
        x.object(1, 1, 1, 5);
        x.move(0, 0, 3, 0, 0);
        x.object(1, 1, 1, 7);
        for (int hour : new int[] {0, 3, 1000000}) {
            Checks.same("where it is at " + hour, -1, x.where(1, hour));
        }
        Checks.same("where it was", -1, x.last(1));
        Checks.same("it weighs nowhere", 5, x.used(0, 3));
        Checks.noPart(x, "it has no row", () -> x.history(1, 0, 0));
        Checks.same("it goes nowhere", -1, x.way(1, 0));
    }

    private static void numbers() {
        Run x = new Run();
        for (int n = 0; n < 20; n++) {
            int number = n;
            Checks.answers("object " + n, number, () -> x.object(number + 1, 1, 1, 1));
            Checks.same("objects", n + 1, x.count(1));
        }
    }

    private static void sizes() {
        Run x = new Run();
        Checks.onlyWithin(x, "w", 1, 10000, size -> x.object(size, 1, 1, 1));
        Checks.onlyWithin(x, "h", 1, 10000, size -> x.object(1, size, 1, 1));
        Checks.onlyWithin(x, "d", 1, 10000, size -> x.object(1, 1, size, 1));
        Checks.answers("w the greatest", 0, () -> x.object(10000, 1, 1, 1));
        Checks.answers("h the greatest", 1, () -> x.object(1, 10000, 1, 1));
        Checks.answers("d the greatest", 2, () -> x.object(1, 1, 10000, 1));
        Checks.answers("all the least", 3, () -> x.object(1, 1, 1, 1));
    }

    private static void grams() {
        Run x = new Run();
        Checks.onlyWithin(x, "grams", 1, 1000000, grams -> x.object(1, 1, 1, grams));
        Checks.answers("the least", 0, () -> x.object(1, 1, 1, 1));
        Checks.answers("the greatest", 1, () -> x.object(1, 1, 1, 1000000));
    }

    private static void full() {
        Run x = new Run();
        for (int n = 0; n < 19; n++) {
            x.object(1, 1, 1, 1);
        }
        Checks.answers("the 20th", 19, () -> x.object(1, 1, 1, 1));
        Checks.badState(x, "the 21st", () -> x.object(1, 1, 1, 1));
        Checks.badState(x, "the 21st again", () -> x.object(10000, 10000, 10000, 1000000));
        Checks.same("objects", 20, x.count(1));
    }
}
