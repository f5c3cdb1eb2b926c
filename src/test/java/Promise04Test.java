/** Promise 4: keys. */
final class Promise04Test {
    public static void main(String[] args) {
        Heading promise = new Heading("Promise 4: keys");
        promise.says("An object's keys: what they were.", Promise04Test::whatTheyWere);
        promise.says("An object's keys: what they were.", Promise04Test::ofEachObject);
        promise.says("NoSuchElementException", Promise04Test::noSuchObject);
        promise.says("IllegalArgumentException: n is not 0 .. 2.", Promise04Test::range);
        Checks.end();
    }

    private static void whatTheyWere() {
        Run x = new Run();
        x.object(1, 1, 1, 1);
        int[] set = {0, 1, 1, 2, 2, 0, 2, 1, 0};
        int before = 0;
        for (int n : set) {
            int due = before;
            Checks.answers("before " + n, due, () -> x.keys(0, n));
            before = n;
        }
    }

    private static void ofEachObject() {
        Run x = new Run();
        for (int o = 0; o < 20; o++) {
            x.object(1, 1, 1, 1);
            x.keys(o, o % 3);
        }
        for (int o = 0; o < 20; o++) {
            int object = o;
            Checks.answers("of object " + o, object % 3, () -> x.keys(object, 0));
        }
    }

    private static void noSuchObject() {
        Run x = new Run();
        x.object(1, 1, 1, 1);
        x.object(1, 1, 1, 1);
        Checks.noPartBut(x, "object", 2, object -> x.keys(object, 1));
        Checks.noPartBut(x, "with 3 keys, object", 2, object -> x.keys(object, 3));
        Checks.answers("nothing was set", 0, () -> x.keys(1, 1));
    }

    private static void range() {
        for (int before = 0; before <= 2; before++) {
            Run x = new Run();
            x.object(1, 1, 1, 1);
            x.keys(0, before);
            Checks.onlyWithin(x, "n", 0, 2, n -> x.keys(0, n));
            int due = before;
            Checks.answers("what they were stays", due, () -> x.keys(0, 0));
        }
    }
}
