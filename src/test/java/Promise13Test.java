/** Promise 13: door. */
final class Promise13Test {
    public static void main(String[] args) {
        Heading promise = new Heading("Promise 13: door");
        promise.says("A door between two places", Promise13Test::betweenTwoPlaces);
        promise.says("its number", Promise13Test::numbers);
        promise.says("NoSuchElementException", Promise13Test::noSuchPlace);
        promise.says("IllegalArgumentException: they are the same", Promise13Test::theSame);
        promise.says("or a size is not 1 .. 10000", Promise13Test::sizes);
        promise.says("IllegalStateException: there are 40.", Promise13Test::full);
        Checks.end();
    }

    private static Run twoPlaces() {
        Run x = new Run();
        x.place(-1, 9);
        x.place(0, 9);
        x.object(5, 5, 5, 1);
        return x;
    }

    private static void betweenTwoPlaces() {
        Run x = twoPlaces();
        x.place(-1, 9);
        x.door(0, 2, 5, 5);
        x.move(0, 0, 0, 0, 0);
        Checks.same("from a to b", 1, x.way(0, 2));
        Checks.same("to no other one", -1, x.way(0, 1));
        x.move(0, 2, 0, 0, 0);
        Checks.same("from b to a", 1, x.way(0, 0));
        x.door(2, 0, 5, 5);
        Checks.same("a second one between the same", 1, x.way(0, 0));
    }

    private static void numbers() {
        Run x = twoPlaces();
        for (int n = 0; n < 40; n++) {
            int number = n;
            Checks.answers("door " + n, number, () -> x.door(number % 2, 1 - number % 2, 5, 5));
            Checks.same("doors", n + 1, x.count(2));
        }
    }

    private static void noSuchPlace() {
        Run x = twoPlaces();
        Checks.noPartBut(x, "a", 2, a -> x.door(a, 0, 5, 5));
        Checks.noPartBut(x, "b", 2, b -> x.door(0, b, 5, 5));
        Checks.noPartBut(x, "both", 2, both -> x.door(both, both, 5, 5));
        Checks.noPartBut(x, "b, and a size is wrong,", 2, b -> x.door(0, b, 0, 5));
        Checks.answers("the last place", 0, () -> x.door(1, 0, 5, 5));
    }

    private static void theSame() {
        Run x = twoPlaces();
        Checks.badArgument(x, "the first", () -> x.door(0, 0, 5, 5));
        Checks.badArgument(x, "the last", () -> x.door(1, 1, 5, 5));
        Checks.answers("one in the other", 0, () -> x.door(0, 1, 5, 5));
    }

    private static void sizes() {
        Run x = twoPlaces();
        Checks.onlyWithin(x, "w", 1, 10000, w -> x.door(0, 1, w, 5));
        Checks.onlyWithin(x, "h", 1, 10000, h -> x.door(0, 1, 5, h));
        Checks.answers("both the least", 0, () -> x.door(0, 1, 1, 1));
        Checks.answers("both the greatest", 1, () -> x.door(0, 1, 10000, 10000));
        Checks.answers("the least and the greatest", 2, () -> x.door(0, 1, 1, 10000));
        Checks.answers("the greatest and the least", 3, () -> x.door(0, 1, 10000, 1));
        Checks.tells("through the least", false, () -> x.passes(0, 0));
        Checks.tells("through the greatest", true, () -> x.passes(0, 1));
    }

    private static void full() {
        Run x = twoPlaces();
        for (int n = 0; n < 39; n++) {
            x.door(0, 1, 1, 1);
        }
        Checks.answers("the 40th", 39, () -> x.door(1, 0, 5, 5));
        Checks.badState(x, "the 41st", () -> x.door(0, 1, 5, 5));
        Checks.tells("the 40th is one", true, () -> x.passes(0, 39));
        Checks.tells("the 39th is another", false, () -> x.passes(0, 38));
        Checks.same("doors", 40, x.count(2));
    }
}
