/** Promises 16 and 17: planned, used. */
final class PlanTest {
    public static void main(String[] args) {
        wrongInputs();
        thirtyPlans();
        bounds();
        oncePerObject();
        within();
        plansAgainstPlans();
        pastPlans();
        Checks.end();
    }

    private static PlaceMoves house() {
        PlaceMoves x = new PlaceMoves();
        x.place(-1, 1000);
        x.place(0, 500);
        x.place(1, 300);
        x.object(9, 9, 9, 300);
        x.object(8, 8, 8, 200);
        x.object(7, 7, 7, 201);
        return x;
    }

    private static void wrongInputs() {
        PlaceMoves x = house();
        x.move(0, 0, 5, 0, 0);
        Checks.noPart(x, "object 3", () -> x.planned(3, 0, 5, 6));
        Checks.noPart(x, "object -1", () -> x.planned(-1, 0, 5, 6));
        Checks.noPart(x, "place 3", () -> x.planned(0, 3, 5, 6));
        Checks.noPart(x, "place NONE", () -> x.planned(0, -1, 5, 6));
        Checks.noPart(x, "no such place comes before the hours", () -> x.planned(0, 3, 4, 6));
        Checks.badArgument(x, "from is gone", () -> x.planned(0, 0, 4, 6));
        Checks.badArgument(x, "to below from", () -> x.planned(0, 0, 7, 6));
        Checks.badArgument(x, "to too late", () -> x.planned(0, 0, 7, 1000001));
        Checks.badArgument(x, "from too late", () -> x.planned(0, 0, 1000001, 1000001));
        Checks.answers("one hour, the present one", 0, () -> x.planned(0, 0, 5, 5));
        Checks.answers("up to the last hour", 0, () -> x.planned(0, 0, 1000000, 1000000));
        Checks.same("the present hour stays", 5, x.count(4));
        Checks.noPart(x, "used of place 3", () -> x.used(3, 0));
        Checks.noPart(x, "used of NONE", () -> x.used(-1, 0));
    }

    private static void thirtyPlans() {
        PlaceMoves x = house();
        for (int n = 0; n < 30; n++) {
            Checks.answers("plan " + n, 0, () -> x.planned(0, 1, 5, 6));
            Checks.same("plans", n + 1, x.count(3));
        }
        Checks.badState(x, "the 31st plan", () -> x.planned(0, 0, 5, 6));
        Checks.badState(x, "the number comes before the load", () -> x.planned(2, 1, 5, 6));
        Checks.badArgument(x, "the hours come before the number", () -> x.planned(0, 0, 6, 5));
        Checks.same("the same object weighs once", 300, x.used(1, 5));
    }

    private static void bounds() {
        PlaceMoves x = house();
        Checks.answers("a plan", 0, () -> x.planned(0, 2, 10, 20));
        int[][] due = {{9, 0}, {10, 300}, {20, 300}, {21, 0}, {-1, 0}, {Integer.MAX_VALUE, 0}};
        for (int[] d : due) {
            Checks.same("used at " + d[0], d[1], x.used(2, d[0]));
            Checks.same("used of the outermost at " + d[0], d[1], x.used(0, d[0]));
        }
        Checks.same("where it is planned it is not", -1, x.where(0, 15));
        Checks.answersIdly(x, "one hour at the start", 1, () -> x.planned(1, 2, 5, 10));
        Checks.answersIdly(x, "one hour at the end", 1, () -> x.planned(1, 2, 20, 25));
        Checks.answersIdly(x, "all around it", 1, () -> x.planned(1, 2, 0, 1000000));
        Checks.answersIdly(x, "within it", 1, () -> x.planned(1, 2, 12, 13));
        Checks.answers("just before it", 0, () -> x.planned(1, 2, 5, 9));
        Checks.answers("just behind it", 0, () -> x.planned(1, 2, 21, 25));
        Checks.answers("just the load of the one around", 0, () -> x.planned(1, 1, 5, 25));
        Checks.answersIdly(x, "above the load of the one around", 1, () -> x.planned(2, 1, 18, 19));
    }

    private static void oncePerObject() {
        PlaceMoves x = house();
        x.move(0, 2, 1, 0, 0);
        Checks.answers("a plan for what is there", 0, () -> x.planned(0, 2, 1, 9));
        Checks.answers("and for the place around", 0, () -> x.planned(0, 1, 1, 9));
        Checks.same("it weighs once", 300, x.used(2, 1));
        Checks.same("it weighs once around", 300, x.used(0, 1));
        x.lost(0, 5);
        Checks.same("the plan of what is lost holds room", 300, x.used(1, 5));
        Checks.same("up to its end", 300, x.used(0, 9));
        Checks.same("and no longer", 0, x.used(0, 10));
        x.planned(1, 0, 20, 30);
        x.planned(1, 1, 20, 30);
        Checks.same("two plans of one object weigh once", 200, x.used(0, 20));
    }

    private static void within() {
        PlaceMoves x = house();
        x.box(0);
        x.move(0, 1, 1, 0, 0);
        x.into(1, 0, 1);
        Checks.same("the box and what is in it", 500, x.used(1, 1));
        Checks.same("they are in the one around", 500, x.used(0, 1));
        Checks.same("not in the one within", 0, x.used(2, 1));
        Checks.answers("a plan for the box is for the box alone", 0, () -> x.planned(0, 2, 1, 9));
        Checks.same("its grams alone", 300, x.used(2, 1));
        Checks.same("all once", 500, x.used(1, 1));
        x.move(0, 0, 2, 0, 0);
        Checks.same("in the box elsewhere, only the plan is left", 300, x.used(1, 2));
    }

    private static void plansAgainstPlans() {
        PlaceMoves x = new PlaceMoves();
        x.place(-1, 30);
        for (int n = 0; n < 4; n++) {
            x.object(1, 1, 1, 10);
        }
        Checks.answers("first", 0, () -> x.planned(0, 0, 10, 30));
        Checks.answers("second", 0, () -> x.planned(1, 0, 20, 40));
        Checks.answers("third", 0, () -> x.planned(2, 0, 30, 50));
        Checks.answersIdly(x, "three at hour 30 already", 1, () -> x.planned(3, 0, 0, 100));
        Checks.answersIdly(x, "up to that hour", 1, () -> x.planned(3, 0, 0, 30));
        Checks.answersIdly(x, "from that hour on", 1, () -> x.planned(3, 0, 30, 100));
        Checks.answers("up to the hour before", 0, () -> x.planned(3, 0, 0, 29));
        Checks.answers("from the hour behind on", 0, () -> x.planned(3, 0, 31, 100));
        Checks.answersIdly(x, "it may not come", 2, () -> x.move(3, 0, 0, 0, 0));
        Checks.answersIdly(x, "beside two plans and one more it may not come", 2, () -> x.move(0, 0, 31, 0, 0));
        Checks.answers("when the others' plans are over", 0, () -> x.move(0, 0, 41, 0, 0));
    }

    private static void pastPlans() {
        PlaceMoves x = house();
        x.planned(0, 2, 1, 3);
        x.move(1, 2, 4, 0, 0);
        Checks.same("what was planned is told still", 300, x.used(2, 3));
        Checks.same("and what is there now", 200, x.used(2, 4));
        Checks.same("plans stay", 1, x.count(3));
        Checks.same("before all", 0, x.used(2, 0));
        Checks.same("an hour that is none, behind", 200, x.used(2, Integer.MAX_VALUE));
        Checks.same("an hour that is none, below", 0, x.used(2, Integer.MIN_VALUE));
    }
}
