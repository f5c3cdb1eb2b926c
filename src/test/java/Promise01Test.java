/** Promise 1: what each call answers on a new object. */
final class Promise01Test {
    public static void main(String[] args) {
        Heading promise = new Heading("Promise 1: A new object");
        promise.says("No places, objects", Promise01Test::noPlaces);
        promise.says("No places, objects", Promise01Test::noObjects);
        promise.says("No places, objects", Promise01Test::noDoorsPlansRowsQuietTimes);
        promise.says("No places, objects", Promise01Test::firstNumbers);
        promise.says("No places, objects", Promise01Test::exceptionsInTheirOrder);
        promise.says("nobody has a key", Promise01Test::nobodyHasAKey);
        promise.says("No places, objects; nobody has a key.", Promise01Test::newObjectsBesideOneAnother);
        Checks.end();
    }

    private static void noPlaces() {
        Run x = new Run();
        Checks.same("places", 0, x.count(0));
        for (int number : new int[] {-1, 0, 1, 23}) {
            Checks.noPart(x, "used " + number, () -> x.used(number, 0));
            Checks.noPart(x, "quiet " + number, () -> x.quiet(number, 0, 0));
            Checks.noPart(x, "door " + number, () -> x.door(number, number + 1, 1, 1));
        }
        Checks.noPart(x, "place in place 0", () -> x.place(0, 1));
        x.object(1, 1, 1, 1);
        Checks.noPart(x, "move to place 0", () -> x.move(0, 0, 0, 0, 0));
        Checks.noPart(x, "way to place 0", () -> x.way(0, 0));
        Checks.noPart(x, "planned at place 0", () -> x.planned(0, 0, 0, 0));
    }

    private static void noObjects() {
        Run x = new Run();
        Checks.same("objects", 0, x.count(1));
        for (int number : new int[] {-1, 0, 1, 19}) {
            Checks.noPart(x, "keys " + number, () -> x.keys(number, 0));
            Checks.noPart(x, "box " + number, () -> x.box(number));
            Checks.noPart(x, "into " + number, () -> x.into(number, number, 0));
            Checks.noPart(x, "lost " + number, () -> x.lost(number, 0));
            Checks.noPart(x, "where " + number, () -> x.where(number, 0));
            Checks.noPart(x, "last " + number, () -> x.last(number));
            Checks.noPart(x, "history " + number, () -> x.history(number, 0, 0));
            Checks.noPart(x, "passes " + number, () -> x.passes(number, 0));
        }
        x.place(-1, 1);
        Checks.noPart(x, "move of object 0", () -> x.move(0, 0, 0, 0, 0));
        Checks.noPart(x, "way of object 0", () -> x.way(0, 0));
        Checks.noPart(x, "planned for object 0", () -> x.planned(0, 0, 0, 0));
    }

    private static void noDoorsPlansRowsQuietTimes() {
        Run x = new Run();
        for (int what = 0; what <= 5; what++) {
            Checks.same("count " + what, 0, x.count(what));
        }
        x.place(-1, 1);
        x.object(1, 1, 1, 1);
        Checks.noPart(x, "door 0", () -> x.passes(0, 0));
        Checks.noPart(x, "row 0", () -> x.history(0, 0, 0));
        Checks.same("no plan holds room", 0, x.used(0, 0));
        Checks.answers("no quiet time bars", 0, () -> x.move(0, 0, 0, 0, 0));
    }

    private static void firstNumbers() {
        Run x = new Run();
        Checks.answers("the first place", 0, () -> x.place(-1, 1));
        Checks.answers("the first object", 0, () -> x.object(1, 1, 1, 1));
        Checks.answers("the second place", 1, () -> x.place(-1, 1));
        Checks.answers("the first door", 0, () -> x.door(0, 1, 1, 1));
    }

    private static void exceptionsInTheirOrder() {
        Run x = new Run();
        Checks.badArgument(x, "place with load 0", () -> x.place(-1, 0));
        Checks.badArgument(x, "object with grams 0", () -> x.object(1, 1, 1, 0));
        Checks.badArgument(x, "count 6", () -> x.count(6));
        Checks.noPart(x, "place in no place with load 0", () -> x.place(0, 0));
        Checks.noPart(x, "3 keys of no object", () -> x.keys(0, 3));
        Checks.noPart(x, "move at -1", () -> x.move(0, 0, -1, 0, 0));
        Checks.noPart(x, "into at -1", () -> x.into(0, 0, -1));
        Checks.noPart(x, "lost at -1", () -> x.lost(0, -1));
        Checks.noPart(x, "history with what 3", () -> x.history(0, 0, 3));
        Checks.noPart(x, "door of size 0", () -> x.door(0, 0, 0, 0));
        Checks.noPart(x, "planned from -1", () -> x.planned(0, 0, -1, -2));
        Checks.noPart(x, "quiet from -1", () -> x.quiet(0, -1, -2));
    }

    private static void nobodyHasAKey() {
        for (int person = 0; person < 10; person++) {
            int p = person;
            Run x = new Run();
            Checks.tells("person " + p + " had one", false, () -> x.key(p, false));
            Checks.tells("person " + p + " had none", true, () -> x.key(p, true));
            Run y = new Run();
            y.place(-1, 1);
            y.object(1, 1, 1, 1);
            y.keys(0, 1);
            Checks.badState(y, "person " + p + " moves what needs a key", () -> y.move(0, 0, 0, p, p));
        }
        Run x = new Run();
        Checks.noPart(x, "person 10", () -> x.key(10, false));
        Checks.noPart(x, "person -1", () -> x.key(-1, false));
    }

    private static void newObjectsBesideOneAnother() {
        Run x = new Run();
        Run y = new Run();
        x.place(-1, 5);
        x.object(1, 1, 1, 5);
        x.key(0, true);
        x.move(0, 0, 7, 0, 0);
        for (int what = 0; what <= 5; what++) {
            Checks.same("count " + what + " of another one", 0, y.count(what));
        }
        Checks.tells("a key of another one's person", true, () -> y.key(0, true));
        Checks.noPart(y, "an object of another one", () -> y.where(0, 7));
    }
}
