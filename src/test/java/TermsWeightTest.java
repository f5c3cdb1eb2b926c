/** 'Terms': plans, and the weight of a place at an hour. */
final class TermsWeightTest {
    public static void main(String[] args) {
        Heading terms = new Heading("Terms");
        terms.says("A PLAN, at most 30 of them", TermsWeightTest::thirtyPlans);
        terms.says("A PLAN, at most 30 of them", TermsWeightTest::plansThatCameToNothing);
        terms.says("from an hour to another one (both with it)", TermsWeightTest::bothHoursOfAPlan);
        terms.says("from an hour to another one (both with it)", TermsWeightTest::planOfOneHour);
        terms.says("from an hour to another one (both with it)", TermsWeightTest::planUpToTheLastHour);
        terms.says("the grams of all objects that are in it", TermsWeightTest::emptyPlace);
        terms.says("the grams of all objects that are in it", TermsWeightTest::allThatAreInIt);
        terms.says("and of those that are not, but for which some plan holds room then at it",
                TermsWeightTest::plannedButNotThere);
        terms.says("or at one in it", TermsWeightTest::plannedWithin);
        terms.says("(once for each object)", TermsWeightTest::thereAndPlanned);
        terms.says("(once for each object)", TermsWeightTest::plannedTwice);
        terms.says("(once for each object)", TermsWeightTest::thereWithinAndPlannedAround);
        terms.says("(once for each object)", TermsWeightTest::inABoxAndPlanned);
        Checks.end();
    }

    /** Place 1 lies in 0, and 2 in 1; 3 lies in none. Object 0 is a box for the others. */
    private static Run house() {
        Run x = new Run();
        for (int into : new int[] {-1, 0, 1, -1}) {
            x.place(into, 1000);
        }
        x.object(9, 9, 9, 100);
        x.object(5, 5, 5, 20);
        x.object(5, 5, 5, 3);
        x.box(0);
        return x;
    }

    private static void thirtyPlans() {
        Run x = house();
        for (int n = 0; n < 30; n++) {
            Checks.same("plan " + n, 0, x.planned(n % 3, n % 4, n, n));
        }
        Checks.badState(x, "the 31st plan", () -> x.planned(0, 0, 99, 99));
        Checks.same("30 plans", 30, x.count(3));
        Checks.same("the first holds its room", 100, x.used(0, 0));
        Checks.same("the last holds its room", 3, x.used(1, 29));
        x.move(0, 0, 50, 0, 0);
        Checks.badState(x, "plans that are over are plans still", () -> x.planned(0, 0, 99, 99));
    }

    private static void plansThatCameToNothing() {
        Run x = house();
        x.place(-1, 99);
        for (int n = 0; n < 31; n++) {
            Checks.same("too heavy", 1, x.planned(0, 4, 5, 6));
        }
        Checks.same("no plan", 0, x.count(3));
        for (int n = 0; n < 30; n++) {
            Checks.same("plan " + n, 0, x.planned(1, 4, 5, 6));
        }
    }

    private static void bothHoursOfAPlan() {
        Run x = house();
        x.planned(0, 3, 10, 20);
        Checks.same("one hour before", 0, x.used(3, 9));
        Checks.same("the first hour", 100, x.used(3, 10));
        Checks.same("between", 100, x.used(3, 15));
        Checks.same("the last hour", 100, x.used(3, 20));
        Checks.same("one hour behind", 0, x.used(3, 21));
    }

    private static void planOfOneHour() {
        Run x = house();
        x.planned(0, 3, 10, 10);
        Checks.same("one hour before", 0, x.used(3, 9));
        Checks.same("the hour", 100, x.used(3, 10));
        Checks.same("one hour behind", 0, x.used(3, 11));
    }

    private static void planUpToTheLastHour() {
        Run x = house();
        x.planned(0, 3, 0, 1000000);
        Checks.same("hour 0", 100, x.used(3, 0));
        Checks.same("the last hour", 100, x.used(3, 1000000));
        x.planned(1, 3, 1000000, 1000000);
        Checks.same("one hour before the last", 100, x.used(3, 999999));
        Checks.same("the last hour, with both", 120, x.used(3, 1000000));
    }

    private static void emptyPlace() {
        Run x = house();
        Checks.same("an empty place", 0, x.used(0, 0));
        x.move(0, 3, 1, 0, 0);
        Checks.same("an empty place beside a full one", 0, x.used(0, 1));
        x.move(0, 0, 2, 0, 0);
        Checks.same("a place that was left", 0, x.used(3, 2));
        Checks.same("and what it weighed", 100, x.used(3, 1));
    }

    private static void allThatAreInIt() {
        Run x = house();
        x.move(0, 1, 1, 0, 0);
        x.into(1, 0, 1);
        x.move(2, 2, 1, 0, 0);
        Checks.same("the box, what is in it, and what lies further in", 123, x.used(0, 1));
        Checks.same("the same for the place in it", 123, x.used(1, 1));
        Checks.same("the innermost", 3, x.used(2, 1));
    }

    private static void plannedButNotThere() {
        Run x = house();
        x.planned(0, 3, 5, 6);
        Checks.same("of one that is nowhere", 100, x.used(3, 5));
        x.move(0, 0, 5, 0, 0);
        Checks.same("of one that is elsewhere", 100, x.used(3, 5));
        Checks.same("where it weighs as well", 100, x.used(0, 5));
        x.lost(0, 6);
        Checks.same("of one that is lost", 100, x.used(3, 6));
        Checks.same("where it was, it does not weigh", 0, x.used(0, 6));
    }

    private static void plannedWithin() {
        Run x = house();
        x.planned(0, 2, 5, 6);
        Checks.same("the place of the plan", 100, x.used(2, 5));
        Checks.same("the one around", 100, x.used(1, 5));
        Checks.same("the outermost", 100, x.used(0, 5));
        Checks.same("another one", 0, x.used(3, 5));
        x.planned(1, 1, 5, 6);
        Checks.same("a plan around is none for the one within", 100, x.used(2, 5));
        Checks.same("but for the outermost", 120, x.used(0, 5));
    }

    private static void thereAndPlanned() {
        Run x = house();
        x.planned(0, 2, 0, 9);
        x.move(0, 2, 1, 0, 0);
        Checks.same("there, and planned there", 100, x.used(2, 1));
        Checks.same("around", 100, x.used(0, 1));
    }

    private static void plannedTwice() {
        Run x = house();
        x.planned(0, 3, 0, 9);
        x.planned(0, 3, 5, 12);
        Checks.same("the first plan", 100, x.used(3, 4));
        Checks.same("both plans", 100, x.used(3, 5));
        Checks.same("the second plan", 100, x.used(3, 12));
        x.planned(1, 3, 9, 9);
        Checks.same("with another object", 120, x.used(3, 9));
    }

    private static void thereWithinAndPlannedAround() {
        Run x = house();
        x.move(0, 2, 0, 0, 0);
        x.planned(0, 0, 0, 9);
        x.planned(0, 1, 0, 9);
        Checks.same("the outermost", 100, x.used(0, 0));
        Checks.same("between", 100, x.used(1, 0));
        Checks.same("where it is", 100, x.used(2, 0));
    }

    private static void inABoxAndPlanned() {
        Run x = house();
        x.move(0, 1, 0, 0, 0);
        x.into(1, 0, 0);
        x.planned(1, 1, 0, 9);
        Checks.same("in the box there, and planned there", 120, x.used(1, 0));
        x.move(0, 3, 5, 0, 0);
        Checks.same("the box has gone, the plan stays", 20, x.used(1, 5));
        Checks.same("and it weighs in the box", 120, x.used(3, 5));
    }
}
