/** Promise 18: quiet. */
final class QuietTest {
    public static void main(String[] args) {
        wrongInputs();
        bounds();
        withinAndAround();
        severalTimes();
        Checks.end();
    }

    /** Place 1 lies in 0, 2 in 1; 3 lies by itself. */
    private static PlaceMoves house() {
        PlaceMoves x = new PlaceMoves();
        x.place(-1, 1000);
        x.place(0, 1000);
        x.place(1, 1000);
        x.place(-1, 1000);
        x.object(9, 9, 9, 1);
        x.object(8, 8, 8, 1);
        return x;
    }

    private static void wrongInputs() {
        PlaceMoves x = house();
        Checks.noPart(x, "place 4", () -> x.quiet(4, 0, 1));
        Checks.noPart(x, "NONE", () -> x.quiet(-1, 0, 1));
        Checks.noPart(x, "no such place comes before the hours", () -> x.quiet(4, -1, 1));
        Checks.badArgument(x, "from below 0", () -> x.quiet(0, -1, 1));
        Checks.badArgument(x, "to below from", () -> x.quiet(0, 5, 4));
        Checks.answers("none of these bars", 0, () -> x.move(0, 0, 0, 0, 0));
        x.quiet(0, 0, Integer.MAX_VALUE);
        for (int n = 1; n < 20; n++) {
            x.quiet(3, 7, 7);
        }
        Checks.badState(x, "the 21st quiet time", () -> x.quiet(1, 0, 9));
        Checks.badArgument(x, "the hours come before the number", () -> x.quiet(0, 5, 4));
        Checks.noPart(x, "no such place comes before the number", () -> x.quiet(4, 0, 1));
        Checks.answers("the refused one does not bar", 0, () -> x.move(0, 1, 5, 0, 0));
        Checks.answers("the first one bars at any hour", 1, () -> x.move(0, 3, 1000000, 0, 0));
    }

    private static void bounds() {
        PlaceMoves x = house();
        x.move(0, 3, 0, 0, 0);
        x.quiet(0, 5, 7);
        Checks.answers("before", 0, () -> x.move(0, 0, 4, 0, 0));
        Checks.answers("before, out", 0, () -> x.move(0, 3, 4, 0, 0));
        for (int hour = 5; hour <= 7; hour++) {
            int h = hour;
            Checks.answersIdly(x, "into it at " + h, 1, () -> x.move(0, 0, h, 0, 0));
            Checks.answersIdly(x, "from nowhere into it at " + h, 1, () -> x.move(1, 0, h, 0, 0));
        }
        Checks.answers("behind", 0, () -> x.move(0, 0, 8, 0, 0));
        x.quiet(0, 8, 8);
        Checks.answersIdly(x, "out of it", 1, () -> x.move(0, 3, 8, 0, 0));
        Checks.answers("to itself", 0, () -> x.move(0, 0, 8, 0, 0));
        x.quiet(3, 0, 7);
        Checks.answers("a time that is gone", 0, () -> x.move(0, 3, 9, 0, 0));
    }

    private static void withinAndAround() {
        PlaceMoves x = house();
        x.move(0, 2, 0, 0, 0);
        x.quiet(1, 1, 9);
        Checks.answersIdly(x, "from within to the one around", 1, () -> x.move(0, 0, 1, 0, 0));
        Checks.answersIdly(x, "from within to another", 1, () -> x.move(0, 3, 1, 0, 0));
        Checks.answers("within it", 0, () -> x.move(0, 1, 1, 0, 0));
        Checks.answers("within it, inwards", 0, () -> x.move(0, 2, 1, 0, 0));
        Checks.answersIdly(x, "from outside to one within", 1, () -> x.move(1, 2, 1, 0, 0));
        Checks.answers("around it", 0, () -> x.move(1, 0, 1, 0, 0));
        Checks.answersIdly(x, "from the one around to one within", 1, () -> x.move(1, 2, 1, 0, 0));
        Checks.answers("away from it", 0, () -> x.move(1, 3, 1, 0, 0));
        x.move(0, 0, 10, 0, 0);
        x.box(0);
        x.into(1, 0, 10);
        x.quiet(0, 11, 12);
        Checks.answersIdly(x, "out of a box in it", 1, () -> x.move(1, 3, 11, 0, 0));
        Checks.answers("out of a box, within it", 0, () -> x.move(1, 2, 11, 0, 0));
    }

    private static void severalTimes() {
        PlaceMoves x = house();
        x.quiet(3, 4, 5);
        x.quiet(0, 2, 9);
        x.quiet(3, 20, 30);
        Checks.answersIdly(x, "the first bars", 1, () -> x.move(0, 3, 4, 0, 0));
        Checks.answersIdly(x, "the second bars", 1, () -> x.move(0, 2, 4, 0, 0));
        Checks.answersIdly(x, "the third bars", 1, () -> x.move(0, 3, 30, 0, 0));
        x.object(1, 1, 1, 2000);
        Checks.answers("a quiet time comes before the load", 1, () -> x.move(2, 3, 4, 0, 0));
        Checks.answers("the load", 2, () -> x.move(2, 3, 31, 0, 0));
        Checks.answers("none bars", 0, () -> x.move(0, 3, 10, 0, 0));
    }
}
