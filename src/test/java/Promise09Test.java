/** Promise 9: lost. */
final class Promise09Test {
    public static void main(String[] args) {
        Heading promise = new Heading("Promise 9: lost");
        promise.says("An object is lost", Promise09Test::isLost);
        promise.says("An object is lost", Promise09Test::neitherKeysNorQuietTimesKeepIt);
        promise.says("whether it was somewhere at the present hour", Promise09Test::nowhere);
        promise.says("whether it was somewhere at the present hour", Promise09Test::lostAlready);
        promise.says("and in no box", Promise09Test::inABox);
        promise.says("and in no box", Promise09Test::inABoxThatIsNowhere);
        promise.says("(else nothing changes)", Promise09Test::elseNothingChanges);
        promise.says("Hour likewise.", Promise09Test::presentHour);
        promise.says("NoSuchElementException", Promise09Test::noSuchObject);
        promise.says("IllegalArgumentException likewise.", Promise09Test::hours);
        promise.says("IllegalStateException: the object has 40 rows.", Promise09Test::fortyRows);
        Checks.end();
    }

    /** Three places, the last in the first; three objects, each of which fits into those before. */
    private static Run house() {
        Run x = new Run();
        x.place(-1, 1000);
        x.place(-1, 1000);
        x.place(0, 1000);
        x.object(9, 9, 9, 10);
        x.object(8, 8, 8, 10);
        x.object(7, 7, 7, 10);
        x.box(0);
        x.box(1);
        return x;
    }

    private static void isLost() {
        Run x = house();
        x.move(0, 2, 1, 0, 0);
        x.into(1, 0, 1);
        x.into(2, 1, 1);
        Checks.tells("somewhere", true, () -> x.lost(0, 3));
        Checks.same("it was there before", 2, x.where(0, 2));
        Checks.same("nowhere", -1, x.where(0, 3));
        Checks.same("what is in it too", -1, x.where(2, 3));
        Checks.same("it weighs nothing", 0, x.used(0, 3));
        Checks.same("but did before", 30, x.used(0, 2));
        Checks.same("the row's hour", 3, x.history(0, 1, 0));
        Checks.same("the row's kind", 2, x.history(0, 1, 1));
        Checks.same("the row's place", -1, x.history(0, 1, 2));
    }

    private static void neitherKeysNorQuietTimesKeepIt() {
        Run x = house();
        x.move(0, 2, 1, 0, 0);
        x.keys(0, 2);
        x.quiet(2, 0, 100);
        Checks.tells("with keys, in a quiet place", true, () -> x.lost(0, 3));
    }

    private static void nowhere() {
        Run x = house();
        Checks.tellsIdly(x, "never anywhere", false, () -> x.lost(0, 0));
        x.move(1, 0, 5, 0, 0);
        Checks.tellsIdly(x, "never anywhere, later on", false, () -> x.lost(0, 9));
        Checks.tells("the other one is somewhere", true, () -> x.lost(1, 9));
    }

    private static void lostAlready() {
        Run x = house();
        x.move(0, 0, 1, 0, 0);
        x.lost(0, 2);
        Checks.tellsIdly(x, "in the same hour", false, () -> x.lost(0, 2));
        Checks.tellsIdly(x, "later", false, () -> x.lost(0, 3));
        x.move(0, 1, 4, 0, 0);
        Checks.tells("found again, and lost in the same hour", true, () -> x.lost(0, 4));
        Checks.same("nowhere in that hour", -1, x.where(0, 4));
    }

    private static void inABox() {
        Run x = house();
        x.move(0, 0, 1, 0, 0);
        x.into(1, 0, 1);
        x.into(2, 1, 1);
        Checks.tellsIdly(x, "in a box that is somewhere", false, () -> x.lost(1, 1));
        Checks.tellsIdly(x, "in a box in a box", false, () -> x.lost(2, 5));
        x.move(2, 0, 2, 0, 0);
        Checks.tells("out of the box", true, () -> x.lost(2, 5));
    }

    private static void inABoxThatIsNowhere() {
        Run x = house();
        x.into(1, 0, 1);
        Checks.tellsIdly(x, "the box never was anywhere", false, () -> x.lost(1, 1));
        x.move(0, 0, 2, 0, 0);
        x.lost(0, 3);
        Checks.tellsIdly(x, "the box is lost", false, () -> x.lost(1, 3));
    }

    private static void elseNothingChanges() {
        Run x = house();
        x.move(0, 0, 5, 0, 0);
        x.into(1, 0, 5);
        Checks.tellsIdly(x, "in a box, at a later hour", false, () -> x.lost(1, 9));
        Checks.tellsIdly(x, "nowhere, at the last hour", false, () -> x.lost(2, 1000000));
        Checks.same("the present hour", 5, x.count(4));
        Checks.same("rows", 2, x.count(5));
    }

    private static void presentHour() {
        Run x = house();
        x.move(0, 0, 5, 0, 0);
        x.move(1, 0, 5, 0, 0);
        Checks.tells("in the same hour", true, () -> x.lost(0, 5));
        Checks.same("it stays", 5, x.count(4));
        Checks.tells("later", true, () -> x.lost(1, 8));
        Checks.same("it becomes the hour", 8, x.count(4));
    }

    private static void noSuchObject() {
        Run x = house();
        x.move(0, 0, 5, 0, 0);
        Checks.noPartBut(x, "object", 3, object -> x.lost(object, 5));
        Checks.noPartBut(x, "an hour that is gone, object", 3, object -> x.lost(object, 4));
    }

    private static void hours() {
        Run x = house();
        Checks.badArgument(x, "-1, and the present one is 0", () -> x.lost(0, -1));
        x.move(0, 0, 5, 0, 0);
        Checks.badArgument(x, "4, and the present one is 5", () -> x.lost(0, 4));
        Checks.badArgument(x, "4, of one nowhere", () -> x.lost(1, 4));
        Checks.badArgument(x, "the least number", () -> x.lost(0, Integer.MIN_VALUE));
        Checks.badArgument(x, "1000001", () -> x.lost(0, 1000001));
        Checks.badArgument(x, "1000001, of one nowhere", () -> x.lost(1, 1000001));
        Checks.badArgument(x, "the greatest number", () -> x.lost(0, Integer.MAX_VALUE));
        Checks.tells("1000000", true, () -> x.lost(0, 1000000));
    }

    private static void fortyRows() {
        Run x = house();
        for (int n = 0; n < 39; n++) {
            x.move(0, 0, 5, 0, 0);
            x.move(1, 0, 5, 0, 0);
        }
        Checks.tells("the 40th row", true, () -> x.lost(0, 5));
        Checks.badState(x, "the 41st row, lost already", () -> x.lost(0, 5));
        x.into(1, 0, 5);
        Checks.badState(x, "the 41st row, in a box", () -> x.lost(1, 5));
        for (int n = 0; n < 40; n++) {
            x.move(2, 1, 5, 0, 0);
        }
        Checks.badState(x, "the 41st row, somewhere", () -> x.lost(2, 6));
        Checks.same("it is there still", 1, x.where(2, 6));
    }
}
