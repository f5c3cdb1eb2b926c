/** Promise 12: history. */
final class Promise12Test {
    public static void main(String[] args) {
        Heading promise = new Heading("Promise 12: history");
        promise.says("Row k of an object: 0 its hour, 1 its kind, 2 the place or box", Promise12Test::rows);
        promise.says("Row k of an object", Promise12Test::firstAndLastOfForty);
        promise.says("(NONE: lost)", Promise12Test::lost);
        promise.says("NoSuchElementException", Promise12Test::noSuchObject);
        promise.says("NoSuchElementException", Promise12Test::noSuchRow);
        promise.says("NoSuchElementException", Promise12Test::rowsThatCameToNothing);
        promise.says("IllegalArgumentException: what is none of these.", Promise12Test::what);
        Checks.end();
    }

    private static Run house() {
        Run x = new Run();
        x.place(-1, 1000);
        x.place(-1, 1000);
        x.place(0, 1000);
        x.object(9, 9, 9, 10);
        x.object(8, 8, 8, 10);
        x.object(7, 7, 7, 10);
        x.box(0);
        x.box(1);
        return x;
    }

    private static void rows() {
        Run x = house();
        x.move(0, 2, 4, 0, 0);
        x.into(2, 1, 5);
        x.lost(0, 6);
        x.into(2, 0, 7);
        x.move(2, 1, 7, 0, 0);
        int[][] due = {{0, 0, 4, 0, 2}, {0, 1, 6, 2, -1}, {2, 0, 5, 1, 1}, {2, 1, 7, 1, 0}, {2, 2, 7, 0, 1}};
        for (int[] d : due) {
            for (int what = 0; what <= 2; what++) {
                Checks.same("object " + d[0] + " row " + d[1] + " what " + what, d[2 + what],
                        x.history(d[0], d[1], what));
            }
        }
    }

    private static void firstAndLastOfForty() {
        Run x = house();
        for (int n = 0; n < 40; n++) {
            x.move(2, n % 3, 10 + n, 0, 0);
        }
        for (int k : new int[] {0, 1, 38, 39}) {
            Checks.same("the hour of row " + k, 10 + k, x.history(2, k, 0));
            Checks.same("the place of row " + k, k % 3, x.history(2, k, 2));
        }
        Checks.noPart(x, "row 40 of 40", () -> x.history(2, 40, 0));
        Checks.noPart(x, "row -1 of 40", () -> x.history(2, -1, 0));
    }

    private static void lost() {
        Run x = house();
        x.move(0, 2, 4, 0, 0);
        x.lost(0, 4);
        Checks.same("the place of the row", PlaceMoves.NONE, x.history(0, 1, 2));
        Checks.same("its kind", 2, x.history(0, 1, 1));
        Checks.same("its hour", 4, x.history(0, 1, 0));
    }

    private static void noSuchObject() {
        Run x = house();
        x.move(2, 2, 4, 0, 0);
        Checks.noPartBut(x, "object", 3, object -> x.history(object, 0, 0));
        Checks.noPartBut(x, "what 3, object", 3, object -> x.history(object, 0, 3));
    }

    private static void noSuchRow() {
        Run x = house();
        Checks.noPartBut(x, "of none, row", 0, k -> x.history(1, k, 0));
        x.move(1, 0, 1, 0, 0);
        x.move(1, 2, 1, 0, 0);
        Checks.noPartBut(x, "of two, row", 2, k -> x.history(1, k, 0));
        Checks.noPartBut(x, "what 3, row", 2, k -> x.history(1, k, 3));
        Checks.same("the last row", 2, x.history(1, 1, 2));
        Checks.noPart(x, "a row of the next object", () -> x.history(0, 40, 0));
    }

    private static void rowsThatCameToNothing() {
        Run x = house();
        x.place(-1, 5);
        x.quiet(1, 3, 3);
        Checks.answersIdly(x, "too heavy", 2, () -> x.move(0, 3, 3, 0, 0));
        Checks.answersIdly(x, "quiet", 1, () -> x.move(0, 1, 3, 0, 0));
        Checks.answersIdly(x, "the same one", 1, () -> x.into(0, 0, 3));
        Checks.tellsIdly(x, "nowhere", false, () -> x.lost(0, 3));
        Checks.noPart(x, "row 0", () -> x.history(0, 0, 0));
    }

    private static void what() {
        Run x = house();
        x.move(0, 2, 4, 0, 0);
        Checks.onlyWithin(x, "what", 0, 2, what -> x.history(0, 0, what));
        x.lost(0, 5);
        Checks.onlyWithin(x, "of a row that tells of a loss, what", 0, 2, what -> x.history(0, 1, what));
    }
}
