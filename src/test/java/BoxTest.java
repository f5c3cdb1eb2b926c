/** Promise 8: into. */
final class BoxTest {
    public static void main(String[] args) {
        wrongInputs();
        noSuchBox();
        rings();
        sizes();
        keys();
        quietTimes();
        loads();
        order();
        fortyRows();
        Checks.end();
    }

    /** Two places, and boxes of falling size. */
    private static PlaceMoves boxes(int n) {
        PlaceMoves x = new PlaceMoves();
        x.place(-1, 1000);
        x.place(-1, 1000);
        for (int i = 0; i < n; i++) {
            x.object(100 - i, 200 - i, 300 - i, 100);
            x.box(i);
        }
        return x;
    }

    private static void wrongInputs() {
        PlaceMoves x = boxes(2);
        x.move(0, 0, 5, 0, 0);
        Checks.noPart(x, "object 2", () -> x.into(2, 0, 5));
        Checks.noPart(x, "box 2", () -> x.into(0, 2, 5));
        Checks.noPart(x, "object -1", () -> x.into(-1, 0, 5));
        Checks.noPart(x, "box -1", () -> x.into(0, -1, 5));
        Checks.noPart(x, "no such box comes before the hour", () -> x.into(0, 2, 4));
        Checks.badArgument(x, "an hour that is gone", () -> x.into(1, 0, 4));
        Checks.badArgument(x, "an hour too late", () -> x.into(1, 0, 1000001));
        Checks.badArgument(x, "the hour comes before the same box", () -> x.into(0, 0, 4));
        Checks.answers("the last hour", 0, () -> x.into(1, 0, 1000000));
        Checks.same("the present hour", 1000000, x.count(4));
    }

    private static void noSuchBox() {
        PlaceMoves x = boxes(2);
        x.object(900, 900, 900, 1);
        Checks.answersIdly(x, "no box", 1, () -> x.into(1, 2, 3));
        Checks.answersIdly(x, "the same one", 1, () -> x.into(0, 0, 3));
        Checks.answers("a box", 0, () -> x.into(1, 0, 3));
        Checks.same("the present hour", 3, x.count(4));
        Checks.same("nowhere, as the box is", -1, x.where(1, 3));
        Checks.same("the row's kind", 1, x.history(1, 0, 1));
        Checks.same("the row's box", 0, x.history(1, 0, 2));
        x.move(0, 1, 4, 0, 0);
        Checks.same("still nowhere then", -1, x.where(1, 3));
        Checks.same("where the box is", 1, x.where(1, 4));
    }

    private static void rings() {
        PlaceMoves x = boxes(3);
        x.into(1, 0, 1);
        x.into(2, 1, 1);
        Checks.answersIdly(x, "into what it holds", 1, () -> x.into(0, 1, 1));
        Checks.answersIdly(x, "into what it holds over another", 1, () -> x.into(0, 2, 1));
        x.move(1, 0, 1, 0, 0);
        Checks.answersIdly(x, "no longer held: only the size bars", 2, () -> x.into(0, 2, 1));
        Checks.answers("it may go back", 0, () -> x.into(2, 0, 1));
        Checks.answers("and into the one further in", 0, () -> x.into(1, 0, 1));
    }

    private static void sizes() {
        PlaceMoves x = new PlaceMoves();
        x.object(30, 10, 20, 1);
        x.box(0);
        int[][] tried = {{9, 19, 29, 0}, {29, 9, 19, 0}, {19, 29, 9, 0}, {10, 19, 29, 2}, {9, 20, 29, 2},
                {9, 19, 30, 2}, {29, 29, 1, 2}, {11, 11, 11, 2}, {1, 1, 29, 0}, {1, 1, 31, 2}};
        for (int i = 0; i < tried.length; i++) {
            int[] t = tried[i];
            int object = x.object(t[0], t[1], t[2], 1);
            Checks.answers("sizes " + t[0] + " " + t[1] + " " + t[2], t[3], () -> x.into(object, 0, 1));
        }
    }

    private static void keys() {
        PlaceMoves x = boxes(2);
        x.keys(1, 1);
        x.key(0, true);
        Checks.answersIdly(x, "it needs a key", 3, () -> x.into(1, 0, 1));
        x.keys(1, 2);
        Checks.answersIdly(x, "it needs two keys", 3, () -> x.into(1, 0, 1));
        x.keys(1, 0);
        x.keys(0, 2);
        Checks.answers("the box's keys are not asked for", 0, () -> x.into(1, 0, 1));
    }

    private static void quietTimes() {
        PlaceMoves x = boxes(3);
        x.move(0, 0, 1, 0, 0);
        x.move(1, 1, 1, 0, 0);
        x.quiet(0, 5, 6);
        Checks.answersIdly(x, "into a quiet place", 4, () -> x.into(1, 0, 5));
        Checks.answersIdly(x, "into a quiet place from nowhere", 4, () -> x.into(2, 0, 6));
        Checks.answers("the place is not quiet yet", 0, () -> x.into(2, 0, 4));
        Checks.answers("within the quiet place", 0, () -> x.move(2, 0, 5, 0, 0));
        Checks.answers("into the box within the quiet place", 0, () -> x.into(2, 0, 5));
        Checks.answersIdly(x, "out of the quiet place", 4, () -> x.into(2, 1, 6));
        Checks.answers("afterwards", 0, () -> x.into(2, 1, 7));
        PlaceMoves y = boxes(2);
        y.move(1, 0, 1, 0, 0);
        y.quiet(0, 2, 2);
        Checks.answersIdly(y, "out of a quiet place into a box that is nowhere", 4, () -> y.into(1, 0, 2));
        Checks.answers("a box that is nowhere", 0, () -> y.into(1, 0, 3));
        Checks.same("it went out", 0, y.used(0, 3));
    }

    private static void loads() {
        PlaceMoves x = boxes(2);
        x.place(0, 199);
        x.place(0, 200);
        x.object(1, 1, 1, 1);
        Checks.answers("the box has room", 0, () -> x.move(0, 2, 1, 0, 0));
        Checks.answersIdly(x, "the object may not come", 5, () -> x.into(1, 0, 2));
        Checks.answers("another place", 0, () -> x.move(0, 3, 2, 0, 0));
        Checks.answers("just the load", 0, () -> x.into(1, 0, 2));
        Checks.answersIdly(x, "into the inner one, too heavy", 5, () -> x.into(2, 1, 3));
        x.move(1, 1, 3, 0, 0);
        Checks.answers("a plan", 0, () -> x.planned(2, 3, 10, 20));
        Checks.answersIdly(x, "the plan holds the room", 5, () -> x.into(1, 0, 4));
        Checks.answers("the planned one comes", 0, () -> x.into(2, 0, 4));
        Checks.same("and weighs once", 101, x.used(3, 10));
    }

    /** The lower answer goes before the higher one. */
    private static void order() {
        PlaceMoves x = new PlaceMoves();
        x.place(-1, 2);
        x.object(5, 5, 5, 2);
        x.object(5, 5, 5, 9);
        x.object(4, 4, 4, 9);
        x.move(0, 0, 1, 0, 0);
        x.keys(1, 1);
        x.keys(2, 1);
        x.quiet(0, 2, 9);
        Checks.answers("no box", 1, () -> x.into(1, 0, 2));
        x.box(0);
        Checks.answers("too great", 2, () -> x.into(1, 0, 2));
        Checks.answers("keys", 3, () -> x.into(2, 0, 2));
        x.keys(2, 0);
        Checks.answers("quiet", 4, () -> x.into(2, 0, 2));
        Checks.answers("too heavy", 5, () -> x.into(2, 0, 10));
    }

    private static void fortyRows() {
        PlaceMoves x = boxes(2);
        for (int n = 0; n < 40; n++) {
            Checks.answers("row " + n, 0, () -> x.into(1, 0, 1));
        }
        Checks.badState(x, "the 41st row", () -> x.into(1, 0, 1));
        Checks.badState(x, "the rows come before the same one", () -> x.into(1, 1, 1));
        Checks.badArgument(x, "the hour comes before the rows", () -> x.into(1, 0, 0));
        Checks.noPart(x, "no such box comes before the rows", () -> x.into(1, 2, 1));
    }
}
