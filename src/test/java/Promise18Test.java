/** Promise 18: quiet. What a quiet time bars is tested under the terms. */
final class Promise18Test {
    public static void main(String[] args) {
        Heading promise = new Heading("Promise 18: quiet");
        promise.says("A quiet time.", Promise18Test::aQuietTime);
        promise.says("A quiet time.", Promise18Test::severalTimes);
        promise.says("A quiet time.", Promise18Test::hoursThatAreGone);
        promise.says("NoSuchElementException", Promise18Test::noSuchPlace);
        promise.says("IllegalArgumentException: from is below 0", Promise18Test::fromBelowZero);
        promise.says("to below from", Promise18Test::toBelowFrom);
        promise.says("IllegalArgumentException: from is below 0, to below from.", Promise18Test::noHourIsTooLate);
        promise.says("IllegalStateException: there are 20.", Promise18Test::full);
        Checks.end();
    }

    /** Place 1 lies in 0, 2 in 1; 3 lies in none. */
    private static Run house() {
        Run x = new Run();
        x.place(-1, 1000);
        x.place(0, 1000);
        x.place(1, 1000);
        x.place(-1, 1000);
        x.object(9, 9, 9, 1);
        x.object(8, 8, 8, 1);
        return x;
    }

    private static void aQuietTime() {
        Run x = house();
        x.quiet(3, 5, 6);
        Checks.same("the present hour stays", 0, x.count(4));
        Checks.answersIdly(x, "it bars", 1, () -> x.move(0, 3, 5, 0, 0));
        Checks.answers("not another place", 0, () -> x.move(0, 0, 5, 0, 0));
    }

    private static void severalTimes() {
        Run x = house();
        x.quiet(3, 4, 5);
        x.quiet(0, 2, 9);
        x.quiet(3, 20, 30);
        x.quiet(3, 4, 5);
        Checks.answersIdly(x, "the first bars", 1, () -> x.move(0, 3, 4, 0, 0));
        Checks.answersIdly(x, "the second bars", 1, () -> x.move(0, 2, 4, 0, 0));
        Checks.answersIdly(x, "the third bars", 1, () -> x.move(0, 3, 30, 0, 0));
        Checks.answers("none bars", 0, () -> x.move(0, 3, 10, 0, 0));
    }

    private static void hoursThatAreGone() {
        Run x = house();
        x.move(0, 0, 10, 0, 0);
        x.quiet(3, 0, 9);
        Checks.answers("a time that is gone may be set, and bars nothing", 0, () -> x.move(0, 3, 10, 0, 0));
        x.quiet(3, 0, 10);
        Checks.answersIdly(x, "one that goes on to the present hour bars", 1, () -> x.move(0, 0, 10, 0, 0));
    }

    private static void noSuchPlace() {
        Run x = house();
        Checks.noPartBut(x, "place", 4, place -> x.quiet(place, 0, 50));
        Checks.noPartBut(x, "hours that are wrong, place", 4, place -> x.quiet(place, -1, -2));
        x.quiet(3, 0, 0);
        Checks.answersIdly(x, "the last place", 1, () -> x.move(0, 3, 0, 0, 0));
    }

    private static void fromBelowZero() {
        Run x = house();
        Checks.badArgument(x, "-1", () -> x.quiet(0, -1, 50));
        Checks.badArgument(x, "-1 to -1", () -> x.quiet(0, -1, -1));
        Checks.badArgument(x, "the least number", () -> x.quiet(0, Integer.MIN_VALUE, 50));
        Checks.answers("none of these bars", 0, () -> x.move(0, 0, 0, 0, 0));
        x.quiet(0, 0, 0);
        Checks.answersIdly(x, "from 0 on", 1, () -> x.move(0, 3, 0, 0, 0));
    }

    private static void toBelowFrom() {
        Run x = house();
        Checks.badArgument(x, "one hour below", () -> x.quiet(0, 5, 4));
        Checks.badArgument(x, "-1 from 0 on", () -> x.quiet(0, 0, -1));
        Checks.badArgument(x, "far below", () -> x.quiet(0, 5, Integer.MIN_VALUE));
        x.quiet(0, 5, 5);
        Checks.answersIdly(x, "the same hour", 1, () -> x.move(0, 0, 5, 0, 0));
        Checks.answers("the hour before", 0, () -> x.move(0, 0, 4, 0, 0));
    }

    private static void noHourIsTooLate() {
        Run x = house();
        x.quiet(0, 1000000, 1000001);
        x.quiet(3, 0, Integer.MAX_VALUE);
        x.quiet(1, Integer.MAX_VALUE, Integer.MAX_VALUE);
        Checks.answersIdly(x, "up to the greatest number, at 0", 1, () -> x.move(0, 3, 0, 0, 0));
        Checks.answersIdly(x, "up to the greatest number, at the last hour", 1, () -> x.move(0, 3, 1000000, 0, 0));
        Checks.answers("before the last hour", 0, () -> x.move(0, 0, 999999, 0, 0));
        Checks.answersIdly(x, "from the last hour on", 1, () -> x.move(1, 0, 1000000, 0, 0));
        Checks.answers("a time beyond the last hour bars nothing", 0, () -> x.move(0, 1, 1000000, 0, 0));
    }

    private static void full() {
        Run x = house();
        for (int n = 0; n < 19; n++) {
            x.quiet(n % 3, 7, 7);
        }
        x.quiet(3, 0, 9);
        Checks.answersIdly(x, "the 20th bars", 1, () -> x.move(0, 3, 9, 0, 0));
        Checks.badState(x, "the 21st", () -> x.quiet(0, 0, 9));
        Checks.badState(x, "the 21st of another place", () -> x.quiet(3, 20, 20));
        Checks.answers("the refused one does not bar", 0, () -> x.move(0, 0, 5, 0, 0));
        Checks.answers("nor the other", 0, () -> x.move(0, 3, 20, 0, 0));
    }
}
