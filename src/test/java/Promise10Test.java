/** Promise 10: where. */
final class Promise10Test {
    public static void main(String[] args) {
        Heading promise = new Heading("Promise 10: where");
        promise.says("Where an object is at an hour", Promise10Test::byHours);
        promise.says("Where an object is at an hour", Promise10Test::inBoxes);
        promise.says("NONE", Promise10Test::none);
        promise.says("Where an object is at an hour; NONE", Promise10Test::numbersThatAreNoHours);
        promise.says("NoSuchElementException", Promise10Test::noSuchObject);
        Checks.end();
    }

    private static Run house() {
        Run x = new Run();
        x.place(-1, 1000);
        x.place(-1, 1000);
        x.place(0, 1000);
        x.object(9, 9, 9, 10);
        x.object(8, 8, 8, 10);
        x.object(7, 7, 7, 10);
        x.box(0);
        x.box(1);
        return x;
    }

    private static void byHours() {
        Run x = house();
        x.move(0, 1, 10, 0, 0);
        x.move(0, 2, 20, 0, 0);
        x.lost(0, 30);
        int[][] due = {{0, -1}, {9, -1}, {10, 1}, {11, 1}, {19, 1}, {20, 2}, {29, 2}, {30, -1}, {1000000, -1}};
        for (int[] d : due) {
            Checks.same("at " + d[0], d[1], x.where(0, d[0]));
        }
        Checks.same("an hour that is named does not become the present one", 30, x.count(4));
    }

    private static void inBoxes() {
        Run x = house();
        x.into(2, 1, 1);
        x.into(1, 0, 2);
        x.move(0, 0, 3, 0, 0);
        x.move(0, 1, 4, 0, 0);
        x.move(1, 2, 5, 0, 0);
        x.lost(0, 6);
        int[] due = {-1, -1, -1, 0, 1, 2, 2};
        for (int hour = 0; hour < due.length; hour++) {
            Checks.same("in two boxes at " + hour, due[hour], x.where(2, hour));
        }
    }

    private static void none() {
        Run x = house();
        Checks.same("no row at all", PlaceMoves.NONE, x.where(0, 0));
        x.move(0, 0, 5, 0, 0);
        Checks.same("before the first row", PlaceMoves.NONE, x.where(0, 4));
        x.lost(0, 6);
        Checks.same("lost", PlaceMoves.NONE, x.where(0, 6));
        x.into(1, 0, 7);
        Checks.same("in a box that is lost", PlaceMoves.NONE, x.where(1, 7));
        x.into(2, 1, 7);
        Checks.same("in a box in a box that is lost", PlaceMoves.NONE, x.where(2, 7));
        x.planned(2, 0, 8, 9);
        Checks.same("a plan puts it nowhere", PlaceMoves.NONE, x.where(2, 8));
    }

    private static void numbersThatAreNoHours() {
        Run x = house();
        x.move(0, 2, 0, 0, 0);
        Checks.same("hour 0", 2, x.where(0, 0));
        Checks.same("-1", -1, x.where(0, -1));
        Checks.same("the least number", -1, x.where(0, Integer.MIN_VALUE));
        Checks.same("1000001", 2, x.where(0, 1000001));
        Checks.same("the greatest number", 2, x.where(0, Integer.MAX_VALUE));
    }

    private static void noSuchObject() {
        Run x = house();
        Checks.noPartBut(x, "object", 3, object -> x.where(object, 0));
        Checks.same("the last one", -1, x.where(2, 0));
    }
}
