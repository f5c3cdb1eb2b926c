/** Promise 16: planned. */
final class Promise16Test {
    public static void main(String[] args) {
        Heading promise = new Heading("Promise 16: planned");
        promise.says("Plans room: 0", Promise16Test::plansRoom);
        promise.says("1 if the weight of the place", Promise16Test::loadOfThePlace);
        promise.says("or of one in which it lies", Promise16Test::loadOfThePlacesAround);
        promise.says("would be above its load", Promise16Test::justTheLoad);
        promise.says("at some hour of the plan", Promise16Test::someHourOfThePlan);
        promise.says("at some hour of the plan", Promise16Test::plansAgainstPlans);
        promise.says("that is not below the present one", Promise16Test::thePresentHour);
        promise.says("Plans room: 0; 1 if the weight", Promise16Test::neitherQuietNorKeysNorHour);
        promise.says("NoSuchElementException", Promise16Test::noSuchPart);
        promise.says("IllegalArgumentException: from is below the present hour", Promise16Test::fromThatIsGone);
        promise.says("or to below from", Promise16Test::toBelowFrom);
        promise.says("or above 1000000", Promise16Test::tooLate);
        promise.says("IllegalStateException: there are 30 plans.", Promise16Test::full);
        Checks.end();
    }

    /** Place 1 lies in 0, and 2 in 1. */
    private static Run house() {
        Run x = new Run();
        x.place(-1, 1000);
        x.place(0, 500);
        x.place(1, 300);
        x.object(9, 9, 9, 300);
        x.object(8, 8, 8, 200);
        x.object(7, 7, 7, 201);
        x.object(6, 6, 6, 301);
        return x;
    }

    private static void plansRoom() {
        Run x = house();
        Checks.answers("a plan", 0, () -> x.planned(0, 2, 10, 20));
        Checks.same("plans", 1, x.count(3));
        Checks.same("its room", 300, x.used(2, 10));
        Checks.same("the object is still nowhere", -1, x.where(0, 10));
        Checks.answers("the same plan again", 0, () -> x.planned(0, 2, 10, 20));
        Checks.same("plans", 2, x.count(3));
        Checks.same("rows", 0, x.count(5));
    }

    private static void loadOfThePlace() {
        Run x = house();
        Checks.answersIdly(x, "a gram too much", 1, () -> x.planned(3, 2, 10, 20));
        x.move(1, 2, 1, 0, 0);
        Checks.answersIdly(x, "beside what is there", 1, () -> x.planned(0, 2, 10, 20));
        Checks.answers("what is there itself", 0, () -> x.planned(1, 2, 10, 20));
    }

    private static void loadOfThePlacesAround() {
        Run x = house();
        x.move(0, 1, 1, 0, 0);
        Checks.answersIdly(x, "a gram above the load of the one around", 1, () -> x.planned(2, 2, 10, 20));
        Checks.answers("just the load of the one around", 0, () -> x.planned(1, 2, 10, 20));
        Run y = new Run();
        y.place(-1, 9);
        y.place(0, 50);
        y.place(1, 50);
        y.object(1, 1, 1, 10);
        y.object(1, 1, 1, 9);
        Checks.answersIdly(y, "a gram above the load of the outermost", 1, () -> y.planned(0, 2, 0, 0));
        Checks.answers("just the load of the outermost", 0, () -> y.planned(1, 2, 0, 0));
    }

    private static void justTheLoad() {
        Run x = house();
        Checks.answers("just the load", 0, () -> x.planned(0, 2, 10, 20));
        Checks.answersIdly(x, "a plan beside it", 1, () -> x.planned(1, 2, 10, 20));
        Checks.answers("just the load of the one around", 0, () -> x.planned(1, 1, 10, 20));
        Checks.answersIdly(x, "no gram more there", 1, () -> x.planned(2, 1, 20, 20));
    }

    private static void someHourOfThePlan() {
        Run x = house();
        x.planned(0, 2, 10, 20);
        Checks.answersIdly(x, "up to the first hour of the other", 1, () -> x.planned(1, 2, 5, 10));
        Checks.answersIdly(x, "from the last hour of the other on", 1, () -> x.planned(1, 2, 20, 25));
        Checks.answersIdly(x, "all around the other", 1, () -> x.planned(1, 2, 0, 1000000));
        Checks.answersIdly(x, "within the other", 1, () -> x.planned(1, 2, 12, 13));
        Checks.answersIdly(x, "one hour within the other", 1, () -> x.planned(1, 2, 15, 15));
        Checks.answers("up to the hour before", 0, () -> x.planned(1, 2, 5, 9));
        Checks.answers("from the hour behind on", 0, () -> x.planned(1, 2, 21, 1000000));
    }

    private static void plansAgainstPlans() {
        Run x = new Run();
        x.place(-1, 30);
        for (int n = 0; n < 4; n++) {
            x.object(1, 1, 1, 10);
        }
        x.planned(0, 0, 10, 30);
        x.planned(1, 0, 20, 40);
        Checks.answers("a third one, for one hour with both", 0, () -> x.planned(2, 0, 30, 50));
        Checks.answersIdly(x, "three at hour 30 already", 1, () -> x.planned(3, 0, 0, 100));
        Checks.answersIdly(x, "up to that hour", 1, () -> x.planned(3, 0, 0, 30));
        Checks.answersIdly(x, "from that hour on", 1, () -> x.planned(3, 0, 30, 100));
        Checks.answers("up to the hour before", 0, () -> x.planned(3, 0, 0, 29));
        Checks.answers("from the hour behind on", 0, () -> x.planned(3, 0, 31, 100));
        Checks.answersIdly(x, "at the hour between it may not come", 2, () -> x.move(3, 0, 0, 0, 0));
        Checks.answersIdly(x, "three plans at hour 31", 2, () -> x.move(0, 0, 31, 0, 0));
        Checks.answers("when one of them is over", 0, () -> x.move(0, 0, 41, 0, 0));
    }

    private static void thePresentHour() {
        Run x = house();
        x.planned(0, 2, 1, 5);
        x.move(1, 0, 5, 0, 0);
        Checks.answersIdly(x, "the present hour is one of the plan", 1, () -> x.planned(1, 2, 5, 9));
        x.move(1, 0, 6, 0, 0);
        Checks.answers("the other plan is over", 0, () -> x.planned(1, 2, 6, 9));
        x.move(0, 0, 7, 0, 0);
        Checks.answers("what is there at the present hour", 0, () -> x.planned(2, 1, 7, 7));
        Checks.answersIdly(x, "and what is planned from it on", 1, () -> x.planned(0, 1, 7, 7));
    }

    private static void neitherQuietNorKeysNorHour() {
        Run x = house();
        x.quiet(2, 0, 50);
        x.keys(0, 2);
        Checks.answers("a quiet place and an object with keys", 0, () -> x.planned(0, 2, 10, 20));
        Checks.same("the present hour stays", 0, x.count(4));
    }

    private static void noSuchPart() {
        Run x = house();
        Checks.noPartBut(x, "object", 4, object -> x.planned(object, 0, 5, 6));
        Checks.noPartBut(x, "place", 3, place -> x.planned(0, place, 5, 6));
        Checks.noPartBut(x, "hours that are wrong, place", 3, place -> x.planned(0, place, -1, -2));
        Checks.answers("the last of both", 0, () -> x.planned(1, 2, 5, 6));
    }

    private static void fromThatIsGone() {
        Run x = house();
        Checks.badArgument(x, "-1, and the present one is 0", () -> x.planned(0, 0, -1, 5));
        x.move(0, 0, 5, 0, 0);
        Checks.badArgument(x, "4, and the present one is 5", () -> x.planned(0, 0, 4, 9));
        Checks.badArgument(x, "the least number", () -> x.planned(0, 0, Integer.MIN_VALUE, 9));
        Checks.answers("the present one", 0, () -> x.planned(0, 0, 5, 9));
    }

    private static void toBelowFrom() {
        Run x = house();
        Checks.badArgument(x, "one hour below", () -> x.planned(0, 0, 7, 6));
        Checks.badArgument(x, "far below", () -> x.planned(0, 0, 7, Integer.MIN_VALUE));
        Checks.badArgument(x, "at the last hour", () -> x.planned(0, 0, 1000000, 999999));
        Checks.answers("the same hour", 0, () -> x.planned(0, 0, 7, 7));
    }

    private static void tooLate() {
        Run x = house();
        Checks.badArgument(x, "to 1000001", () -> x.planned(0, 0, 7, 1000001));
        Checks.badArgument(x, "from and to 1000001", () -> x.planned(0, 0, 1000001, 1000001));
        Checks.badArgument(x, "from 1000001 to 7", () -> x.planned(0, 0, 1000001, 7));
        Checks.badArgument(x, "to the greatest number", () -> x.planned(0, 0, 7, Integer.MAX_VALUE));
        Checks.answers("to 1000000", 0, () -> x.planned(0, 0, 7, 1000000));
        Checks.answers("from and to 1000000", 0, () -> x.planned(0, 0, 1000000, 1000000));
    }

    private static void full() {
        Run x = house();
        for (int n = 0; n < 29; n++) {
            Checks.same("plan " + n, 0, x.planned(0, 2, 5, 6));
        }
        Checks.answersIdly(x, "one that finds no room is none", 1, () -> x.planned(1, 2, 5, 6));
        Checks.answers("the 30th", 0, () -> x.planned(1, 0, 5, 6));
        Checks.badState(x, "the 31st", () -> x.planned(1, 0, 5, 6));
        Checks.badState(x, "the 31st, that finds no room", () -> x.planned(1, 2, 5, 6));
        Checks.badState(x, "the 31st, at another hour", () -> x.planned(1, 0, 1000000, 1000000));
        Checks.same("plans", 30, x.count(3));
    }
}
