/** Promise 11: last. */
final class Promise11Test {
    public static void main(String[] args) {
        Heading promise = new Heading("Promise 11: last");
        promise.says("The place at which an object was latest", Promise11Test::latest);
        promise.says("The place at which an object was latest", Promise11Test::inBoxes);
        promise.says("over all hours up to the present one", Promise11Test::upToThePresentHour);
        promise.says("over all hours up to the present one", Promise11Test::withinOneHour);
        promise.says("over all hours up to the present one", Promise11Test::fromHourZero);
        promise.says("over all hours up to the present one", Promise11Test::manyHoursBefore);
        promise.says("over all hours up to the present one", Promise11Test::asManyBoxesAsThereMayBe);
        promise.says("NONE if it never was anywhere", Promise11Test::neverAnywhere);
        promise.says("NoSuchElementException", Promise11Test::noSuchObject);
        Checks.end();
    }

    private static Run house() {
        Run x = new Run();
        x.place(-1, 1000);
        x.place(-1, 1000);
        x.place(0, 1000);
        x.object(9, 9, 9, 10);
        x.object(8, 8, 8, 10);
        x.object(7, 7, 7, 10);
        x.box(0);
        x.box(1);
        return x;
    }

    private static void latest() {
        Run x = house();
        x.move(0, 1, 10, 0, 0);
        Checks.same("it is there", 1, x.last(0));
        x.move(0, 2, 20, 0, 0);
        Checks.same("it is elsewhere now", 2, x.last(0));
        x.lost(0, 30);
        Checks.same("lost from there", 2, x.last(0));
        x.move(1, 0, 40, 0, 0);
        Checks.same("lost for long", 2, x.last(0));
        x.move(0, 0, 50, 0, 0);
        Checks.same("found", 0, x.last(0));
    }

    private static void inBoxes() {
        Run x = house();
        x.move(2, 1, 1, 0, 0);
        x.into(2, 1, 2);
        Checks.same("in a box that is nowhere", 1, x.last(2));
        x.move(1, 2, 3, 0, 0);
        Checks.same("the box has come", 2, x.last(2));
        x.into(1, 0, 5);
        Checks.same("in a box in one that is nowhere", 2, x.last(2));
        x.move(0, 0, 6, 0, 0);
        x.lost(0, 6);
        Checks.same("the outer one was somewhere at no hour", 2, x.last(2));
        x.move(0, 0, 7, 0, 0);
        x.lost(0, 9);
        Checks.same("where the outer one was", 0, x.last(2));
        x.into(2, 0, 9);
        Checks.same("and in the outer one itself", 0, x.last(2));
    }

    private static void upToThePresentHour() {
        Run x = house();
        x.planned(0, 0, 5, 9);
        Checks.same("a plan ahead is no place where it was", -1, x.last(0));
        x.move(0, 1, 3, 0, 0);
        Checks.same("the present hour counts", 1, x.last(0));
        x.lost(0, 4);
        Checks.same("the hour before the present one counts", 1, x.last(0));
    }

    private static void withinOneHour() {
        Run x = house();
        x.move(0, 1, 0, 0, 0);
        x.lost(0, 0);
        Checks.same("moved and lost in hour 0: at no hour anywhere", -1, x.last(0));
        x.move(1, 1, 5, 0, 0);
        x.move(1, 2, 7, 0, 0);
        x.lost(1, 7);
        Checks.same("moved on and lost in one hour", 1, x.last(1));
        x.move(1, 0, 7, 0, 0);
        Checks.same("found in that hour", 0, x.last(1));
    }

    private static void fromHourZero() {
        Run x = house();
        x.move(0, 2, 0, 0, 0);
        x.lost(0, 1);
        Checks.same("at hour 0 alone", 2, x.last(0));
        x.move(1, 0, 1000000, 0, 0);
        Checks.same("and the present hour is the last one", 2, x.last(0));
        Checks.same("the other one came at the last hour", 0, x.last(1));
    }

    private static void manyHoursBefore() {
        Run x = house();
        x.move(2, 1, 0, 0, 0);
        for (int n = 0; n < 39; n++) {
            x.into(2, 1, 1 + 2 * n);
            x.into(1, 0, 2 + 2 * n);
        }
        Checks.same("at hour 0, before 78 other hours in boxes", 1, x.last(2));
        Checks.same("the box never was anywhere", -1, x.last(1));
    }

    private static void asManyBoxesAsThereMayBe() {
        Run x = new Run();
        x.place(-1, 1000);
        x.place(-1, 1000);
        for (int n = 0; n < 20; n++) {
            x.object(100 - n, 100 - n, 100 - n, 1);
            x.box(n);
        }
        x.move(19, 0, 0, 0, 0);
        for (int n = 19; n > 0; n--) {
            x.into(n, n - 1, 1);
        }
        Checks.same("in 19 boxes, that are nowhere", 0, x.last(19));
        x.move(0, 1, 5, 0, 0);
        Checks.same("where the outermost is", 1, x.last(19));
        x.lost(0, 7);
        Checks.same("where the outermost was one hour before", 1, x.last(19));
    }

    private static void neverAnywhere() {
        Run x = house();
        Checks.same("no row", -1, x.last(0));
        x.into(1, 0, 3);
        Checks.same("only ever in a box that is nowhere", -1, x.last(1));
        x.move(0, 0, 5, 0, 0);
        x.lost(0, 6);
        x.into(2, 0, 6);
        Checks.same("only ever in a box that is lost", -1, x.last(2));
        Checks.same("in that box before it was lost", 0, x.last(1));
    }

    private static void noSuchObject() {
        Run x = house();
        Checks.noPartBut(x, "object", 3, object -> x.last(object));
        Checks.same("the last one", -1, x.last(2));
    }
}
