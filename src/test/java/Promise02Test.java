/** Promise 2: place. */
final class Promise02Test {
    public static void main(String[] args) {
        Heading promise = new Heading("Promise 2: place");
        promise.says("A place in another one", Promise02Test::inAnotherOne);
        promise.says("(NONE: in none)", Promise02Test::inNone);
        promise.says("its number", Promise02Test::numbers);
        promise.says("NoSuchElementException", Promise02Test::noSuchPlace);
        promise.says("IllegalArgumentException: load.", Promise02Test::load);
        promise.says("IllegalStateException: there are 24.", Promise02Test::full);
        Checks.end();
    }

    private static void inAnotherOne() {
        Run x = new Run();
        x.place(-1, 100);
        x.place(0, 100);
        x.place(1, 100);
        x.place(0, 100);
        x.object(1, 1, 1, 7);
        x.move(0, 2, 0, 0, 0);
        int[] due = {7, 7, 7, 0};
        for (int place = 0; place < due.length; place++) {
            Checks.same("the weight of " + place, due[place], x.used(place, 0));
        }
    }

    private static void inNone() {
        Run x = new Run();
        Checks.answers("the first place", 0, () -> x.place(PlaceMoves.NONE, 100));
        Checks.answers("another one", 1, () -> x.place(PlaceMoves.NONE, 100));
        x.object(1, 1, 1, 7);
        x.move(0, 1, 0, 0, 0);
        Checks.same("it does not lie in the first", 0, x.used(0, 0));
    }

    private static void numbers() {
        Run x = new Run();
        for (int n = 0; n < 24; n++) {
            int into = n / 2 - 1;
            int number = n;
            Checks.answers("place " + n, number, () -> x.place(into, 100));
            Checks.same("places", n + 1, x.count(0));
        }
    }

    private static void noSuchPlace() {
        Run x = new Run();
        Checks.noPart(x, "in 0, when there is none", () -> x.place(0, 5));
        x.place(-1, 5);
        x.place(-1, 5);
        for (int into : new int[] {2, 3, 24, -2, Integer.MIN_VALUE, Integer.MAX_VALUE}) {
            Checks.noPart(x, "in " + into, () -> x.place(into, 5));
        }
        Checks.answers("in the last one", 2, () -> x.place(1, 5));
    }

    private static void load() {
        Run x = new Run();
        x.place(-1, 5);
        Checks.onlyWithin(x, "in none, load", 1, 1000000000, load -> x.place(-1, load));
        Checks.onlyWithin(x, "in another one, load", 1, 1000000000, load -> x.place(0, load));
        Checks.answers("the least load", 1, () -> x.place(-1, 1));
        Checks.answers("the greatest load", 2, () -> x.place(0, 1000000000));
        // A place may bear more than the one in which it lies; the lesser load counts.
        x.object(1, 1, 1, 6);
        Checks.answersIdly(x, "the load of the one around", 2, () -> x.move(0, 2, 0, 0, 0));
    }

    private static void full() {
        Run x = new Run();
        for (int n = 0; n < 23; n++) {
            x.place(-1, 100);
        }
        Checks.answers("the 24th", 23, () -> x.place(22, 100));
        Checks.badState(x, "the 25th, in none", () -> x.place(-1, 100));
        Checks.badState(x, "the 25th, in another one", () -> x.place(23, 100));
        Checks.noPart(x, "the 25th, in itself", () -> x.place(24, 100));
        Checks.same("places", 24, x.count(0));
    }
}
