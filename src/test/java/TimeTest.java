/** Promises 9 to 12: lost, where, last, history. */
final class TimeTest {
    public static void main(String[] args) {
        lost();
        lostWrongInputs();
        where();
        whereInBoxes();
        last();
        lastWithinAnHour();
        lastInBoxes();
        history();
        Checks.end();
    }

    private static PlaceMoves house() {
        PlaceMoves x = new PlaceMoves();
        x.place(-1, 1000);
        x.place(-1, 1000);
        x.place(0, 1000);
        x.object(9, 9, 9, 10);
        x.object(8, 8, 8, 10);
        x.object(7, 7, 7, 10);
        x.box(0);
        x.box(1);
        return x;
    }

    private static void lost() {
        PlaceMoves x = house();
        Checks.answersIdly(x, "nowhere yet", 0, () -> x.lost(0, 3) ? 1 : 0);
        x.move(0, 2, 1, 0, 0);
        x.into(1, 0, 1);
        x.into(2, 1, 1);
        Checks.answersIdly(x, "in a box", 0, () -> x.lost(1, 3) ? 1 : 0);
        x.keys(0, 2);
        x.quiet(2, 0, 100);
        Checks.tells("neither keys nor quiet times keep it", true, () -> x.lost(0, 3));
        Checks.same("the present hour", 3, x.count(4));
        Checks.same("it was there before", 2, x.where(0, 2));
        Checks.same("nowhere", -1, x.where(0, 3));
        Checks.same("what is in it too", -1, x.where(2, 3));
        Checks.same("and weighs nothing", 0, x.used(0, 3));
        Checks.same("but did before", 30, x.used(0, 2));
        Checks.answersIdly(x, "lost already", 0, () -> x.lost(0, 4) ? 1 : 0);
        Checks.answersIdly(x, "in a box that is lost", 0, () -> x.lost(1, 4) ? 1 : 0);
        Checks.answers("found again", 0, () -> x.move(2, 1, 4, 0, 0));
        Checks.tells("and lost in the same hour", true, () -> x.lost(2, 4));
        Checks.same("nowhere in that hour", -1, x.where(2, 4));
    }

    private static void lostWrongInputs() {
        PlaceMoves x = house();
        x.move(0, 0, 5, 0, 0);
        Checks.noPart(x, "object 3", () -> x.lost(3, 5));
        Checks.noPart(x, "object -1", () -> x.lost(-1, 5));
        Checks.noPart(x, "no such object comes before the hour", () -> x.lost(3, 4));
        Checks.badArgument(x, "an hour that is gone", () -> x.lost(0, 4));
        Checks.badArgument(x, "an hour that is gone, of one nowhere", () -> x.lost(1, 4));
        Checks.badArgument(x, "an hour too late", () -> x.lost(0, 1000001));
        for (int n = 1; n < 40; n++) {
            x.move(0, 0, 5, 0, 0);
        }
        Checks.badState(x, "the 41st row", () -> x.lost(0, 5));
        Checks.badArgument(x, "the hour comes before the rows", () -> x.lost(0, 4));
        for (int n = 0; n < 40; n++) {
            x.into(1, 0, 5);
        }
        Checks.badState(x, "the rows come before the box", () -> x.lost(1, 5));
        x.move(2, 0, 5, 0, 0);
        Checks.tells("the last hour", true, () -> x.lost(2, 1000000));
    }

    private static void where() {
        PlaceMoves x = house();
        x.move(0, 1, 10, 0, 0);
        x.move(0, 2, 20, 0, 0);
        x.lost(0, 30);
        int[][] due = {{0, -1}, {9, -1}, {10, 1}, {19, 1}, {20, 2}, {29, 2}, {30, -1}, {1000000, -1}};
        for (int[] d : due) {
            Checks.same("where at " + d[0], d[1], x.where(0, d[0]));
        }
        x.move(0, 0, 40, 0, 0);
        Checks.same("an hour that is none, below", -1, x.where(0, -1));
        Checks.same("the least number", -1, x.where(0, Integer.MIN_VALUE));
        Checks.same("the greatest number", 0, x.where(0, Integer.MAX_VALUE));
        Checks.noPart(x, "object 3", () -> x.where(3, 0));
        Checks.noPart(x, "object -1", () -> x.where(-1, 0));
    }

    private static void whereInBoxes() {
        PlaceMoves x = house();
        x.into(2, 1, 1);
        x.into(1, 0, 2);
        x.move(0, 0, 3, 0, 0);
        x.move(0, 1, 4, 0, 0);
        x.move(1, 2, 5, 0, 0);
        x.lost(0, 6);
        int[] due = {-1, -1, -1, 0, 1, 2, 2};
        for (int hour = 0; hour < due.length; hour++) {
            Checks.same("in two boxes at " + hour, due[hour], x.where(2, hour));
        }
    }

    private static void last() {
        PlaceMoves x = house();
        Checks.same("never anywhere", -1, x.last(0));
        x.move(0, 1, 10, 0, 0);
        Checks.same("it is there", 1, x.last(0));
        x.move(0, 2, 20, 0, 0);
        x.lost(0, 30);
        Checks.same("it was there", 2, x.last(0));
        x.into(2, 0, 40);
        Checks.same("only ever in a lost box", -1, x.last(2));
        Checks.noPart(x, "object 3", () -> x.last(3));
        Checks.noPart(x, "object -1", () -> x.last(-1));
    }

    private static void lastWithinAnHour() {
        PlaceMoves x = house();
        x.move(0, 1, 0, 0, 0);
        x.lost(0, 0);
        Checks.same("moved and lost in hour 0: at no hour anywhere", -1, x.last(0));
        x.move(1, 1, 5, 0, 0);
        x.move(1, 2, 7, 0, 0);
        x.lost(1, 7);
        Checks.same("moved on and lost in one hour", 1, x.last(1));
        x.move(1, 0, 7, 0, 0);
        Checks.same("found in that hour", 0, x.last(1));
    }

    private static void lastInBoxes() {
        PlaceMoves x = house();
        x.move(2, 1, 1, 0, 0);
        x.into(2, 1, 2);
        Checks.same("in a box that is nowhere", 1, x.last(2));
        x.move(1, 2, 3, 0, 0);
        x.into(1, 0, 5);
        Checks.same("in a box in one that is nowhere", 2, x.last(2));
        x.move(0, 0, 6, 0, 0);
        x.lost(0, 6);
        Checks.same("the outer one was somewhere at no hour", 2, x.last(2));
        x.move(0, 0, 7, 0, 0);
        x.lost(0, 9);
        Checks.same("where the outer one was", 0, x.last(2));
        x.into(2, 0, 9);
        Checks.same("and in the outer one itself", 0, x.last(2));
    }

    private static void history() {
        PlaceMoves x = house();
        x.move(0, 2, 4, 0, 0);
        x.into(2, 1, 5);
        x.lost(0, 6);
        x.into(2, 0, 7);
        int[][] due = {{0, 0, 4, 0, 2}, {0, 1, 6, 2, -1}, {2, 0, 5, 1, 1}, {2, 1, 7, 1, 0}};
        for (int[] d : due) {
            for (int what = 0; what <= 2; what++) {
                Checks.same("history " + d[0] + " " + d[1] + " " + what, d[2 + what], x.history(d[0], d[1], what));
            }
        }
        Checks.noPart(x, "object 3", () -> x.history(3, 0, 0));
        Checks.noPart(x, "object -1", () -> x.history(-1, 0, 0));
        Checks.noPart(x, "row 2", () -> x.history(0, 2, 0));
        Checks.noPart(x, "row -1", () -> x.history(2, -1, 0));
        Checks.noPart(x, "no row at all", () -> x.history(1, 0, 0));
        Checks.noPart(x, "a row far off", () -> x.history(0, Integer.MAX_VALUE, 0));
        Checks.noPart(x, "no such row comes before what", () -> x.history(0, 2, 3));
        Checks.badArgument(x, "what 3", () -> x.history(0, 1, 3));
        Checks.badArgument(x, "what -1", () -> x.history(0, 1, -1));
        Checks.answersIdly(x, "a row that was refused", 1, () -> x.into(0, 0, 8));
    }
}
