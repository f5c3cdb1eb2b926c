/** Promise 7: move. */
final class MoveTest {
    public static void main(String[] args) {
        wrongInputs();
        keys();
        hours();
        loads();
        loadsAhead();
        boxesComeWhole();
        outOfBox();
        fortyRows();
        Checks.end();
    }

    private static PlaceMoves hall() {
        PlaceMoves x = new PlaceMoves();
        x.place(-1, 1000);
        x.place(0, 500);
        x.place(1, 300);
        x.place(-1, 1000);
        return x;
    }

    private static void wrongInputs() {
        PlaceMoves x = hall();
        x.object(1, 1, 1, 100);
        x.move(0, 0, 5, 0, 0);
        Checks.noPart(x, "object 1", () -> x.move(1, 0, 5, 0, 0));
        Checks.noPart(x, "object -1", () -> x.move(-1, 0, 5, 0, 0));
        Checks.noPart(x, "place 4", () -> x.move(0, 4, 5, 0, 0));
        Checks.noPart(x, "place NONE", () -> x.move(0, -1, 5, 0, 0));
        Checks.noPart(x, "person 10 as a", () -> x.move(0, 0, 5, 10, 0));
        Checks.noPart(x, "person 10 as b", () -> x.move(0, 0, 5, 0, 10));
        Checks.noPart(x, "person -1 as a", () -> x.move(0, 0, 5, -1, 0));
        Checks.noPart(x, "person -1 as b", () -> x.move(0, 0, 5, 0, -1));
        Checks.badArgument(x, "an hour that is gone", () -> x.move(0, 0, 4, 0, 0));
        Checks.badArgument(x, "an hour too late", () -> x.move(0, 0, 1000001, 0, 0));
        Checks.noPart(x, "no such person comes before the hour", () -> x.move(0, 0, 4, 0, 10));
        x.keys(0, 1);
        Checks.badArgument(x, "the hour comes before the keys", () -> x.move(0, 0, 4, 0, 0));
        Checks.noPart(x, "no such place comes before the keys", () -> x.move(0, 4, 5, 0, 0));
    }

    private static void keys() {
        PlaceMoves x = hall();
        x.object(1, 1, 1, 100);
        x.keys(0, 1);
        x.key(3, true);
        Checks.badState(x, "a has no key", () -> x.move(0, 0, 1, 4, 3));
        Checks.answers("a has the key", 0, () -> x.move(0, 0, 1, 3, 4));
        Checks.answers("a has the key, and is b", 0, () -> x.move(0, 0, 1, 3, 3));
        x.keys(0, 2);
        Checks.badState(x, "b has no key", () -> x.move(0, 0, 1, 3, 4));
        Checks.badState(x, "a has no key of two", () -> x.move(0, 0, 1, 4, 3));
        Checks.badState(x, "the same person", () -> x.move(0, 0, 1, 3, 3));
        x.key(4, true);
        Checks.answers("both have keys", 0, () -> x.move(0, 0, 1, 3, 4));
        x.key(3, false);
        Checks.badState(x, "a key that was taken", () -> x.move(0, 0, 1, 3, 4));
        x.keys(0, 0);
        Checks.answers("no keys are needed any more", 0, () -> x.move(0, 0, 1, 0, 0));
        x.keys(0, 1);
        x.quiet(0, 1, 1);
        Checks.badState(x, "a missing key comes before a quiet time", () -> x.move(0, 3, 1, 0, 0));
    }

    private static void hours() {
        PlaceMoves x = hall();
        x.object(1, 1, 1, 100);
        x.object(1, 1, 1, 999);
        Checks.answers("a move", 0, () -> x.move(0, 2, 5, 0, 0));
        Checks.same("the present hour", 5, x.count(4));
        Checks.same("nowhere before", -1, x.where(0, 4));
        Checks.same("there at its hour", 2, x.where(0, 5));
        Checks.same("there later on", 2, x.where(0, 1000000));
        Checks.answersIdly(x, "too heavy", 2, () -> x.move(1, 2, 9, 0, 0));
        x.quiet(3, 9, 9);
        Checks.answersIdly(x, "quiet", 1, () -> x.move(0, 3, 9, 0, 0));
        Checks.answers("a second move in the same hour", 0, () -> x.move(0, 1, 5, 0, 0));
        Checks.same("the last row of an hour holds", 1, x.where(0, 5));
        Checks.answers("where it is already", 0, () -> x.move(0, 1, 6, 0, 0));
        Checks.same("that is a row too", 3, x.count(5));
        Checks.answers("the last hour", 0, () -> x.move(0, 0, 1000000, 0, 0));
        Checks.answers("the last hour again", 0, () -> x.move(0, 1, 1000000, 0, 0));
    }

    private static void loads() {
        PlaceMoves x = hall();
        int[] grams = {300, 200, 201, 500, 501};
        for (int g : grams) {
            x.object(1, 1, 1, g);
        }
        Checks.answers("just the load", 0, () -> x.move(0, 2, 1, 0, 0));
        Checks.answersIdly(x, "above the load of the place", 2, () -> x.move(1, 2, 1, 0, 0));
        Checks.answersIdly(x, "above the load of the one around", 2, () -> x.move(2, 1, 1, 0, 0));
        Checks.answers("just the load of the one around", 0, () -> x.move(1, 1, 1, 0, 0));
        Checks.answersIdly(x, "above the load of the outermost", 2, () -> x.move(4, 0, 1, 0, 0));
        Checks.answers("just the load of the outermost", 0, () -> x.move(3, 0, 1, 0, 0));
        Checks.answersIdly(x, "the outermost is full", 2, () -> x.move(2, 0, 1, 0, 0));
        Checks.answers("within the full one all may move", 0, () -> x.move(1, 0, 1, 0, 0));
        Checks.answers("out of the full one", 0, () -> x.move(3, 3, 2, 0, 0));
        Checks.answers("room again", 0, () -> x.move(2, 0, 2, 0, 0));
    }

    private static void loadsAhead() {
        PlaceMoves x = hall();
        x.object(1, 1, 1, 200);
        x.object(1, 1, 1, 150);
        x.object(1, 1, 1, 350);
        Checks.answers("a plan far ahead", 0, () -> x.planned(0, 2, 900, 1000));
        Checks.answersIdly(x, "the plan holds the room", 2, () -> x.move(1, 2, 1, 0, 0));
        Checks.answersIdly(x, "the plan holds room in the one around", 2, () -> x.move(2, 1, 1, 0, 0));
        Checks.answersIdly(x, "at the end of the plan", 2, () -> x.move(1, 2, 1000, 0, 0));
        Checks.answers("the planned one itself comes", 0, () -> x.move(0, 2, 1, 0, 0));
        Checks.answers("and goes, and the plan stays", 0, () -> x.move(0, 3, 2, 0, 0));
        Checks.answersIdly(x, "so the room is held still", 2, () -> x.move(1, 2, 2, 0, 0));
        Checks.answers("after the plan", 0, () -> x.move(1, 2, 1001, 0, 0));
    }

    private static void boxesComeWhole() {
        PlaceMoves x = hall();
        x.object(9, 9, 9, 100);
        x.object(8, 8, 8, 100);
        x.object(7, 7, 7, 101);
        x.box(0);
        x.box(1);
        x.into(1, 0, 0);
        x.into(2, 1, 0);
        Checks.answersIdly(x, "the box with all that is in it", 2, () -> x.move(0, 2, 1, 0, 0));
        Checks.answers("the box where it has room", 0, () -> x.move(0, 1, 1, 0, 0));
        Checks.same("what is in it came", 1, x.where(2, 1));
        Checks.same("all weigh", 301, x.used(1, 1));
        Checks.answers("the inner one goes out", 0, () -> x.move(2, 3, 2, 0, 0));
        Checks.answers("then the box may come", 0, () -> x.move(0, 2, 2, 0, 0));
        Checks.same("the box in the box", 2, x.where(1, 2));
    }

    private static void outOfBox() {
        PlaceMoves x = hall();
        x.object(9, 9, 9, 100);
        x.object(8, 8, 8, 100);
        x.box(0);
        x.move(0, 0, 1, 0, 0);
        x.into(1, 0, 1);
        Checks.answers("out of the box", 0, () -> x.move(1, 0, 2, 0, 0));
        x.move(0, 3, 3, 0, 0);
        Checks.same("it stays when the box goes", 0, x.where(1, 3));
        Checks.same("its row", 0, x.history(1, 1, 1));
    }

    private static void fortyRows() {
        PlaceMoves x = hall();
        x.object(1, 1, 1, 100);
        x.object(1, 1, 1, 100);
        for (int n = 0; n < 40; n++) {
            int place = n % 3;
            Checks.answers("row " + n, 0, () -> x.move(0, place, 7, 0, 0));
        }
        Checks.badState(x, "the 41st row", () -> x.move(0, 0, 7, 0, 0));
        Checks.badArgument(x, "the hour comes before the rows", () -> x.move(0, 0, 6, 0, 0));
        x.quiet(3, 7, 7);
        Checks.badState(x, "the rows come before a quiet time", () -> x.move(0, 3, 7, 0, 0));
        Checks.answers("another object has rows of its own", 0, () -> x.move(1, 0, 7, 0, 0));
        Checks.same("rows of all", 41, x.count(5));
    }
}
