/** Promise 6: box. */
final class Promise06Test {
    public static void main(String[] args) {
        Heading promise = new Heading("Promise 6: box");
        promise.says("An object becomes a box", Promise06Test::becomesABox);
        promise.says("whether it was none", Promise06Test::whetherItWasNone);
        promise.says("NoSuchElementException", Promise06Test::noSuchObject);
        Checks.end();
    }

    private static void becomesABox() {
        Run x = new Run();
        x.place(-1, 100);
        x.object(9, 9, 9, 1);
        x.object(5, 5, 5, 1);
        Checks.answersIdly(x, "before", 1, () -> x.into(1, 0, 0));
        x.move(0, 0, 1, 0, 0);
        x.box(0);
        Checks.same("it stays where it is", 0, x.where(0, 1));
        Checks.answers("a box, though it was moved before", 0, () -> x.into(1, 0, 1));
        x.box(0);
        Checks.same("once more, and it holds what it held", 0, x.where(1, 1));
    }

    private static void whetherItWasNone() {
        Run x = new Run();
        for (int n = 0; n < 20; n++) {
            x.object(1, 1, 1, 1);
        }
        for (int n = 0; n < 20; n++) {
            int object = n;
            Checks.tells("the first time, object " + n, true, () -> x.box(object));
            Checks.tells("the second time, object " + n, false, () -> x.box(object));
        }
        Checks.tellsIdly(x, "the third time", false, () -> x.box(0));
    }

    private static void noSuchObject() {
        Run x = new Run();
        x.object(1, 1, 1, 1);
        x.object(1, 1, 1, 1);
        Checks.noPartBut(x, "object", 2, object -> x.box(object));
        Checks.tells("the last one was none", true, () -> x.box(1));
        x.object(1, 1, 1, 1);
        Checks.tells("nor a later one", true, () -> x.box(2));
    }
}
