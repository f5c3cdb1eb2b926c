/** Promise 17: used. What weighs is tested under the terms. */
final class Promise17Test {
    public static void main(String[] args) {
        Heading promise = new Heading("Promise 17: used");
        promise.says("The weight of a place at an hour.", Promise17Test::byHours);
        promise.says("The weight of a place at an hour.", Promise17Test::hoursThatAreGone);
        promise.says("The weight of a place at an hour.", Promise17Test::numbersThatAreNoHours);
        promise.says("The weight of a place at an hour.", Promise17Test::theGreatestWeight);
        promise.says("NoSuchElementException", Promise17Test::noSuchPlace);
        Checks.end();
    }

    /** Place 1 lies in 0. */
    private static Run house() {
        Run x = new Run();
        x.place(-1, 1000);
        x.place(0, 1000);
        x.object(9, 9, 9, 100);
        x.object(8, 8, 8, 20);
        return x;
    }

    private static void byHours() {
        Run x = house();
        x.move(0, 1, 5, 0, 0);
        x.planned(1, 1, 7, 8);
        x.move(0, 0, 9, 0, 0);
        int[][] due = {{4, 0, 0}, {5, 100, 100}, {6, 100, 100}, {7, 120, 120}, {8, 120, 120}, {9, 100, 0}};
        for (int[] d : due) {
            Checks.same("the outer one at " + d[0], d[1], x.used(0, d[0]));
            Checks.same("the inner one at " + d[0], d[2], x.used(1, d[0]));
        }
        Checks.same("an hour that is named does not become the present one", 9, x.count(4));
    }

    private static void hoursThatAreGone() {
        Run x = house();
        x.planned(0, 1, 1, 3);
        x.move(1, 1, 4, 0, 0);
        Checks.same("a plan that is over is told still", 100, x.used(1, 3));
        Checks.same("what is there now", 20, x.used(1, 4));
        Checks.same("before all", 0, x.used(1, 0));
    }

    private static void numbersThatAreNoHours() {
        Run x = house();
        x.move(0, 1, 0, 0, 0);
        x.planned(1, 1, 0, 1000000);
        Checks.same("hour 0", 120, x.used(1, 0));
        Checks.same("-1", 0, x.used(1, -1));
        Checks.same("the least number", 0, x.used(1, Integer.MIN_VALUE));
        Checks.same("the last hour", 120, x.used(1, 1000000));
        Checks.same("1000001", 100, x.used(1, 1000001));
        Checks.same("the greatest number", 100, x.used(1, Integer.MAX_VALUE));
    }

    private static void theGreatestWeight() {
        Run x = new Run();
        x.place(-1, 1000000000);
        for (int n = 0; n < 20; n++) {
            x.object(1, 1, 1, 1000000);
            x.move(n, 0, n, 0, 0);
            Checks.same("with " + (n + 1), 1000000 * (n + 1), x.used(0, n));
        }
    }

    private static void noSuchPlace() {
        Run x = house();
        Checks.noPartBut(x, "place", 2, place -> x.used(place, 0));
        Checks.noPartBut(x, "at no hour, place", 2, place -> x.used(place, -1));
        Checks.same("the last one", 0, x.used(1, 0));
    }
}
