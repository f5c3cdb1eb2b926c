/** Promise 8: into. */
final class Promise08Test {
    public static void main(String[] args) {
        Heading promise = new Heading("Promise 8: into");
        promise.says("Puts an object into a box: 0", Promise08Test::putsIntoABox);
        promise.says("Puts an object into a box: 0", Promise08Test::intoTheBoxThatItIsIn);
        promise.says("1 if it is no box", Promise08Test::noBox);
        promise.says("or the same one", Promise08Test::theSameOne);
        promise.says("or the box is in the object", Promise08Test::boxInTheObject);
        promise.says("(over any others)", Promise08Test::boxInTheObjectOverOthers);
        promise.says("is not below the box's", Promise08Test::sizes);
        promise.says("2 if one of its sizes, the three of each by size, the least against the least",
                Promise08Test::sizesInAnyOrder);
        promise.says("3 if it needs keys", Promise08Test::keys);
        promise.says("4 if a quiet time bars that", Promise08Test::quietTimes);
        promise.says("5 if the box is somewhere, where the object may not come", Promise08Test::loads);
        promise.says("5 if the box is somewhere, where the object may not come", Promise08Test::boxNowhere);
        promise.says("5 if the box is somewhere, where the object may not come", Promise08Test::loadsAhead);
        promise.says("Puts an object into a box: 0; 1 if it is no box", Promise08Test::lowerAnswersFirst);
        promise.says("Hour likewise.", Promise08Test::presentHour);
        promise.says("NoSuchElementException", Promise08Test::noSuchObject);
        promise.says("IllegalArgumentException likewise.", Promise08Test::hours);
        promise.says("IllegalStateException: the object has 40 rows.", Promise08Test::fortyRows);
        Checks.end();
    }

    /** Two places, and boxes each of which fits into those before. */
    private static Run boxes(int n) {
        Run x = new Run();
        x.place(-1, 1000);
        x.place(-1, 1000);
        for (int i = 0; i < n; i++) {
            x.object(100 - i, 200 - i, 300 - i, 100);
            x.box(i);
        }
        return x;
    }

    private static void putsIntoABox() {
        Run x = boxes(2);
        x.move(0, 1, 2, 0, 0);
        x.move(1, 0, 2, 0, 0);
        Checks.answers("a box", 0, () -> x.into(1, 0, 3));
        Checks.same("the row's hour", 3, x.history(1, 1, 0));
        Checks.same("the row's kind", 1, x.history(1, 1, 1));
        Checks.same("the row's box", 0, x.history(1, 1, 2));
        Checks.same("where the box is", 1, x.where(1, 3));
        Checks.same("where it was", 0, x.where(1, 2));
        Checks.same("it weighs there", 200, x.used(1, 3));
    }

    private static void intoTheBoxThatItIsIn() {
        Run x = boxes(3);
        x.into(2, 0, 1);
        Checks.answers("into the same box again", 0, () -> x.into(2, 0, 1));
        x.into(1, 0, 1);
        Checks.answers("into another one that is in that box", 0, () -> x.into(2, 1, 1));
        Checks.answers("and back into the outer one", 0, () -> x.into(2, 0, 1));
        Checks.same("rows", 5, x.count(5));
    }

    private static void noBox() {
        Run x = boxes(2);
        x.object(900, 900, 900, 1);
        Checks.answersIdly(x, "no box", 1, () -> x.into(1, 2, 3));
        x.box(2);
        Checks.answers("a box now", 0, () -> x.into(1, 2, 3));
    }

    private static void theSameOne() {
        Run x = boxes(2);
        Checks.answersIdly(x, "nowhere", 1, () -> x.into(0, 0, 3));
        x.move(1, 0, 3, 0, 0);
        Checks.answersIdly(x, "somewhere", 1, () -> x.into(1, 1, 3));
        x.object(1, 1, 1, 1);
        Checks.answersIdly(x, "the same one that is no box", 1, () -> x.into(2, 2, 3));
    }

    private static void boxInTheObject() {
        Run x = boxes(2);
        x.into(1, 0, 1);
        Checks.answersIdly(x, "the box is in it", 1, () -> x.into(0, 1, 1));
        x.move(1, 0, 1, 0, 0);
        Checks.answersIdly(x, "no longer: only the size bars", 2, () -> x.into(0, 1, 1));
        x.into(1, 0, 1);
        x.move(0, 0, 2, 0, 0);
        x.lost(0, 3);
        Checks.answersIdly(x, "in it, though it is lost", 1, () -> x.into(0, 1, 3));
    }

    private static void boxInTheObjectOverOthers() {
        Run x = boxes(20);
        for (int n = 19; n > 0; n--) {
            x.into(n, n - 1, 1);
        }
        for (int n = 1; n < 20; n++) {
            int box = n;
            Checks.answersIdly(x, "over " + (n - 1) + " others", 1, () -> x.into(0, box, 1));
        }
        Checks.answersIdly(x, "from the middle", 1, () -> x.into(10, 19, 1));
        Checks.answers("outwards is no ring", 0, () -> x.into(19, 0, 1));
        Checks.answersIdly(x, "it is no longer in the middle", 2, () -> x.into(10, 19, 1));
    }

    private static void sizes() {
        // The box is 10 by 20 by 30: each size below by one, the same, above by one.
        int[][] tried = {{9, 19, 29, 0}, {10, 19, 29, 2}, {9, 20, 29, 2}, {9, 19, 30, 2}, {11, 19, 29, 2},
            {9, 21, 29, 2}, {9, 19, 31, 2}, {10, 20, 30, 2}, {1, 1, 1, 0}, {1, 1, 29, 0}, {1, 1, 30, 2}};
        Run x = new Run();
        x.object(10, 20, 30, 1);
        x.box(0);
        for (int[] t : tried) {
            int object = x.object(t[0], t[1], t[2], 1);
            Checks.answers(t[0] + " " + t[1] + " " + t[2], t[3], () -> x.into(object, 0, 1));
        }
    }

    private static void sizesInAnyOrder() {
        int[][] orders = {{0, 1, 2}, {0, 2, 1}, {1, 0, 2}, {1, 2, 0}, {2, 0, 1}, {2, 1, 0}};
        int[][] tried = {{9, 19, 29, 0}, {10, 19, 29, 2}, {9, 20, 29, 2}, {9, 19, 30, 2}, {1, 29, 29, 2}};
        int[] box = {10, 20, 30};
        for (int[] b : orders) {
            for (int[] t : tried) {
                Run x = new Run();
                x.object(box[b[0]], box[b[1]], box[b[2]], 1);
                x.box(0);
                for (int[] o : orders) {
                    int object = x.object(t[o[0]], t[o[1]], t[o[2]], 1);
                    Checks.answers(t[o[0]] + " " + t[o[1]] + " " + t[o[2]], t[3], () -> x.into(object, 0, 1));
                }
            }
        }
    }

    private static void keys() {
        Run x = boxes(2);
        x.key(0, true);
        x.key(1, true);
        x.keys(1, 1);
        Checks.answersIdly(x, "one key", 3, () -> x.into(1, 0, 1));
        x.keys(1, 2);
        Checks.answersIdly(x, "two keys", 3, () -> x.into(1, 0, 1));
        x.keys(1, 0);
        x.keys(0, 2);
        Checks.answers("no key, but the box needs two", 0, () -> x.into(1, 0, 1));
    }

    private static void quietTimes() {
        Run x = boxes(3);
        x.move(0, 0, 1, 0, 0);
        x.move(1, 1, 1, 0, 0);
        x.quiet(0, 5, 6);
        Checks.answersIdly(x, "into a quiet place", 4, () -> x.into(1, 0, 5));
        Checks.answersIdly(x, "into a quiet place from nowhere", 4, () -> x.into(2, 0, 6));
        Checks.answers("the hour before", 0, () -> x.into(2, 0, 4));
        Checks.answers("within the quiet place", 0, () -> x.move(2, 0, 5, 0, 0));
        Checks.answers("into the box within the quiet place", 0, () -> x.into(2, 0, 5));
        Checks.answersIdly(x, "out of the quiet place", 4, () -> x.into(2, 1, 6));
        Checks.answers("the hour behind", 0, () -> x.into(2, 1, 7));
        Run y = boxes(2);
        y.move(1, 0, 1, 0, 0);
        y.quiet(0, 2, 2);
        Checks.answersIdly(y, "out of a quiet place into a box that is nowhere", 4, () -> y.into(1, 0, 2));
        Checks.answers("the hour behind", 0, () -> y.into(1, 0, 3));
        Checks.same("it went out", 0, y.used(0, 3));
    }

    private static void loads() {
        Run x = boxes(2);
        x.place(0, 199);
        x.place(0, 200);
        x.object(1, 1, 1, 1);
        Checks.answers("the box has room", 0, () -> x.move(0, 2, 1, 0, 0));
        Checks.answersIdly(x, "a gram above the load", 5, () -> x.into(1, 0, 2));
        Checks.answers("another place", 0, () -> x.move(0, 3, 2, 0, 0));
        Checks.answers("just the load", 0, () -> x.into(1, 0, 2));
        Checks.answersIdly(x, "into the inner one, a gram above", 5, () -> x.into(2, 1, 3));
        Run y = boxes(1);
        y.place(0, 5000);
        y.object(1, 1, 1, 901);
        y.object(1, 1, 1, 900);
        y.move(0, 2, 1, 0, 0);
        Checks.answersIdly(y, "a gram above the load of the place around", 5, () -> y.into(1, 0, 1));
        Checks.answers("just the load of the place around", 0, () -> y.into(2, 0, 1));
    }

    private static void boxNowhere() {
        Run x = boxes(2);
        x.object(1, 1, 1, 1000000);
        Checks.answers("a box that never was anywhere", 0, () -> x.into(2, 0, 1));
        Checks.same("nowhere, as the box is", -1, x.where(2, 1));
        Checks.answersIdly(x, "and the box is too heavy now", 2, () -> x.move(0, 0, 1, 0, 0));
        x.move(1, 0, 1, 0, 0);
        x.lost(1, 2);
        Checks.answers("a box that is lost", 0, () -> x.into(2, 1, 2));
        Checks.same("nowhere, as the lost box is", -1, x.where(2, 2));
    }

    private static void loadsAhead() {
        Run x = new Run();
        x.place(-1, 200);
        x.object(9, 9, 9, 100);
        x.object(5, 5, 5, 50);
        x.object(5, 5, 5, 51);
        x.box(0);
        x.move(0, 0, 0, 0, 0);
        Checks.answers("a plan", 0, () -> x.planned(1, 0, 10, 20));
        Checks.answersIdly(x, "the plan holds the room", 5, () -> x.into(2, 0, 4));
        Checks.answersIdly(x, "its last hour", 5, () -> x.into(2, 0, 20));
        Checks.answers("the planned one comes", 0, () -> x.into(1, 0, 4));
        Checks.same("and weighs once", 150, x.used(0, 10));
        x.lost(0, 5);
        x.move(0, 0, 21, 0, 0);
        Checks.answersIdly(x, "the plan is over, but it has come", 5, () -> x.into(2, 0, 21));
    }

    private static void lowerAnswersFirst() {
        Run x = new Run();
        x.place(-1, 2);
        x.object(5, 5, 5, 2);
        x.object(5, 5, 5, 9);
        x.object(4, 4, 4, 9);
        x.move(0, 0, 1, 0, 0);
        x.keys(1, 1);
        x.keys(2, 1);
        x.quiet(0, 2, 9);
        Checks.answersIdly(x, "no box, sizes, keys, quiet, load", 1, () -> x.into(1, 0, 2));
        Checks.answersIdly(x, "the same one, sizes, keys", 1, () -> x.into(1, 1, 2));
        x.box(0);
        Checks.answersIdly(x, "sizes, keys, quiet, load", 2, () -> x.into(1, 0, 2));
        Checks.answersIdly(x, "keys, quiet, load", 3, () -> x.into(2, 0, 2));
        x.keys(2, 0);
        Checks.answersIdly(x, "quiet, load", 4, () -> x.into(2, 0, 2));
        Checks.answersIdly(x, "load", 5, () -> x.into(2, 0, 10));
    }

    private static void presentHour() {
        Run x = boxes(2);
        Checks.answersIdly(x, "at 1", 1, () -> x.into(0, 0, 9));
        Checks.answersIdly(x, "at 2", 2, () -> x.into(0, 1, 9));
        x.keys(1, 1);
        Checks.answersIdly(x, "at 3", 3, () -> x.into(1, 0, 9));
        x.keys(1, 0);
        Checks.same("it stays", 0, x.count(4));
        Checks.answers("at 0", 0, () -> x.into(1, 0, 9));
        Checks.same("it becomes the hour", 9, x.count(4));
        Checks.answers("at 0 in the same hour", 0, () -> x.into(1, 0, 9));
        Checks.same("it stays the same", 9, x.count(4));
    }

    private static void noSuchObject() {
        Run x = boxes(2);
        Checks.noPartBut(x, "object", 2, object -> x.into(object, 0, 5));
        Checks.noPartBut(x, "box", 2, box -> x.into(1, box, 5));
        Checks.answers("the last one", 0, () -> x.into(1, 0, 5));
    }

    private static void hours() {
        Run x = boxes(2);
        Checks.badArgument(x, "-1, and the present one is 0", () -> x.into(1, 0, -1));
        x.move(0, 0, 5, 0, 0);
        Checks.badArgument(x, "4, and the present one is 5", () -> x.into(1, 0, 4));
        Checks.badArgument(x, "4, and it is the same one", () -> x.into(0, 0, 4));
        Checks.badArgument(x, "the least number", () -> x.into(1, 0, Integer.MIN_VALUE));
        Checks.badArgument(x, "1000001", () -> x.into(1, 0, 1000001));
        Checks.badArgument(x, "the greatest number", () -> x.into(1, 0, Integer.MAX_VALUE));
        Checks.answers("the present one", 0, () -> x.into(1, 0, 5));
        Checks.answers("1000000", 0, () -> x.into(1, 0, 1000000));
        Checks.same("the present hour", 1000000, x.count(4));
    }

    private static void fortyRows() {
        Run x = boxes(3);
        for (int n = 0; n < 40; n++) {
            Checks.answers("row " + n, 0, () -> x.into(1, 0, 1));
        }
        Checks.badState(x, "the 41st row", () -> x.into(1, 0, 1));
        Checks.badState(x, "though it is the same one", () -> x.into(1, 1, 1));
        Checks.badState(x, "though it is too great", () -> x.into(1, 2, 1));
        Checks.answers("the rows of the box do not count", 0, () -> x.into(2, 1, 1));
    }
}
