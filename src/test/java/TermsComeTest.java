/** 'Terms': whether an object may come to a place. */
final class TermsComeTest {
    public static void main(String[] args) {
        Heading terms = new Heading("Terms");
        terms.says("(with all that is in it, if it is a box, and so on)", TermsComeTest::boxWithWhatIsInIt);
        terms.says("(with all that is in it, if it is a box, and so on)", TermsComeTest::boxInABox);
        terms.says("(with all that is in it, if it is a box, and so on)", TermsComeTest::boxPutIntoABox);
        terms.says("from the present hour on, at any hour", TermsComeTest::planThatBeginsLater);
        terms.says("from the present hour on, at any hour", TermsComeTest::planThatEndsAtTheHour);
        terms.says("from the present hour on, at any hour", TermsComeTest::planThatIsOver);
        terms.says("from the present hour on, at any hour", TermsComeTest::planOfTheLastHour);
        terms.says("as all would stand", TermsComeTest::withinAFullPlace);
        terms.says("as all would stand", TermsComeTest::itsOwnPlan);
        terms.says("as all would stand", TermsComeTest::planOfWhatIsInTheBox);
        terms.says("the weight of the place", TermsComeTest::loadOfThePlace);
        terms.says("and of all in which that lies", TermsComeTest::loadOfThePlacesAround);
        terms.says("is not above its load", TermsComeTest::justTheLoad);
        terms.says("is not above its load", TermsComeTest::loadsElsewhereDoNotCount);
        Checks.end();
    }

    /** Place 0 bears 100, place 1 bears 1000. */
    private static Run twoPlaces() {
        Run x = new Run();
        x.place(-1, 100);
        x.place(-1, 1000);
        return x;
    }

    private static void box(Run x, int size, int grams) {
        x.box(x.object(size, size, size, grams));
    }

    private static void boxWithWhatIsInIt() {
        Run x = twoPlaces();
        box(x, 9, 60);
        box(x, 8, 41);
        box(x, 7, 40);
        x.into(1, 0, 0);
        Checks.answersIdly(x, "one gram too much", 2, () -> x.move(0, 0, 1, 0, 0));
        x.move(1, 1, 1, 0, 0);
        x.into(2, 0, 1);
        Checks.answers("just the load", 0, () -> x.move(0, 0, 1, 0, 0));
        Checks.same("both came", 100, x.used(0, 1));
        Checks.same("what is in it", 0, x.where(2, 1));
    }

    private static void boxInABox() {
        Run x = twoPlaces();
        box(x, 9, 40);
        box(x, 8, 30);
        box(x, 7, 31);
        x.into(2, 1, 0);
        x.into(1, 0, 0);
        Checks.answersIdly(x, "one gram too much, two boxes in", 2, () -> x.move(0, 0, 1, 0, 0));
        Checks.answers("where there is room", 0, () -> x.move(0, 1, 1, 0, 0));
        Checks.same("all came", 101, x.used(1, 1));
    }

    private static void boxPutIntoABox() {
        Run x = twoPlaces();
        box(x, 9, 40);
        box(x, 8, 30);
        box(x, 7, 31);
        box(x, 7, 30);
        x.move(0, 0, 0, 0, 0);
        x.into(2, 1, 0);
        Checks.answersIdly(x, "one gram too much", 5, () -> x.into(1, 0, 0));
        x.move(2, 1, 0, 0, 0);
        x.into(3, 1, 0);
        Checks.answers("just the load", 0, () -> x.into(1, 0, 0));
        Checks.same("all came", 100, x.used(0, 0));
    }

    private static void planThatBeginsLater() {
        Run x = twoPlaces();
        box(x, 9, 60);
        box(x, 8, 41);
        box(x, 7, 40);
        x.planned(0, 0, 7, 9);
        Checks.answersIdly(x, "long before the plan begins", 2, () -> x.move(1, 0, 1, 0, 0));
        Checks.answersIdly(x, "the hour before it begins", 2, () -> x.move(1, 0, 6, 0, 0));
        Checks.answersIdly(x, "the hour at which it begins", 2, () -> x.move(1, 0, 7, 0, 0));
        Checks.answers("one gram less has room", 0, () -> x.move(2, 0, 1, 0, 0));
    }

    private static void planThatEndsAtTheHour() {
        Run x = twoPlaces();
        box(x, 9, 60);
        box(x, 8, 41);
        x.planned(0, 0, 3, 9);
        Checks.answersIdly(x, "the last hour of the plan", 2, () -> x.move(1, 0, 9, 0, 0));
        Checks.answers("one hour behind, though the present one is before the plan", 0, () -> x.move(1, 0, 10, 0, 0));
        Checks.same("the plan weighed alone", 60, x.used(0, 9));
        Checks.same("what came weighs alone", 41, x.used(0, 10));
    }

    private static void planThatIsOver() {
        Run x = twoPlaces();
        box(x, 9, 60);
        box(x, 8, 41);
        box(x, 7, 1);
        x.planned(0, 0, 3, 9);
        x.move(2, 1, 10, 0, 0);
        Checks.answers("it holds no room at the present hour", 0, () -> x.move(1, 0, 10, 0, 0));
    }

    private static void planOfTheLastHour() {
        Run x = twoPlaces();
        box(x, 9, 60);
        box(x, 8, 41);
        x.planned(0, 0, 1000000, 1000000);
        Checks.answersIdly(x, "hour 0", 2, () -> x.move(1, 0, 0, 0, 0));
        Checks.answersIdly(x, "the last hour", 2, () -> x.move(1, 0, 1000000, 0, 0));
        Checks.answers("elsewhere", 0, () -> x.move(1, 1, 0, 0, 0));
        Checks.answers("the planned one itself", 0, () -> x.move(0, 0, 0, 0, 0));
    }

    private static void withinAFullPlace() {
        Run x = twoPlaces();
        x.place(0, 100);
        box(x, 9, 60);
        box(x, 8, 40);
        x.move(0, 0, 1, 0, 0);
        x.move(1, 0, 1, 0, 0);
        Checks.answers("to where it is", 0, () -> x.move(0, 0, 2, 0, 0));
        Checks.answers("inwards", 0, () -> x.move(0, 2, 2, 0, 0));
        Checks.answers("into a box within", 0, () -> x.into(1, 0, 2));
        Checks.answers("the box with it outwards", 0, () -> x.move(0, 0, 3, 0, 0));
        Checks.answers("out of the box", 0, () -> x.move(1, 0, 3, 0, 0));
        Checks.same("as much as before", 100, x.used(0, 3));
    }

    private static void itsOwnPlan() {
        Run x = twoPlaces();
        box(x, 9, 100);
        box(x, 8, 1);
        x.planned(0, 0, 0, 50);
        Checks.answers("its own plan does not bar it", 0, () -> x.move(0, 0, 1, 0, 0));
        Checks.answers("it goes", 0, () -> x.move(0, 1, 2, 0, 0));
        Checks.answersIdly(x, "but its plan bars others", 2, () -> x.move(1, 0, 3, 0, 0));
        Checks.answers("and lets it come back", 0, () -> x.move(0, 0, 4, 0, 0));
    }

    private static void planOfWhatIsInTheBox() {
        Run x = twoPlaces();
        box(x, 9, 60);
        box(x, 8, 40);
        x.planned(1, 0, 0, 50);
        x.into(1, 0, 1);
        Checks.answers("what is in the box weighs once, planned or not", 0, () -> x.move(0, 0, 1, 0, 0));
        Checks.same("just the load", 100, x.used(0, 1));
    }

    private static void loadOfThePlace() {
        Run x = twoPlaces();
        x.place(1, 99);
        box(x, 9, 100);
        Checks.answersIdly(x, "above the load of the place, not of the one around", 2, () -> x.move(0, 2, 1, 0, 0));
        Checks.answers("in the one around", 0, () -> x.move(0, 1, 1, 0, 0));
    }

    private static void loadOfThePlacesAround() {
        Run x = new Run();
        x.place(-1, 50);
        x.place(0, 1000);
        x.place(1, 1000);
        x.place(2, 1000);
        box(x, 9, 51);
        box(x, 8, 50);
        for (int place = 3; place >= 0; place--) {
            int to = place;
            Checks.answersIdly(x, "above the load of the outermost, at " + to, 2, () -> x.move(0, to, 1, 0, 0));
        }
        Checks.answers("just the load of the outermost", 0, () -> x.move(1, 3, 1, 0, 0));
        Run y = new Run();
        y.place(-1, 1000);
        y.place(0, 50);
        y.place(1, 1000);
        box(y, 9, 51);
        Checks.answersIdly(y, "above the load of the one between", 2, () -> y.move(0, 2, 1, 0, 0));
        Checks.answers("outside of that", 0, () -> y.move(0, 0, 1, 0, 0));
    }

    private static void justTheLoad() {
        Run x = twoPlaces();
        box(x, 9, 99);
        box(x, 8, 2);
        box(x, 7, 1);
        box(x, 6, 1);
        Checks.answers("below the load", 0, () -> x.move(0, 0, 1, 0, 0));
        Checks.answersIdly(x, "one gram above it", 2, () -> x.move(1, 0, 1, 0, 0));
        Checks.answers("just the load", 0, () -> x.move(2, 0, 1, 0, 0));
        Checks.answersIdly(x, "a gram more", 2, () -> x.move(3, 0, 1, 0, 0));
    }

    private static void loadsElsewhereDoNotCount() {
        Run x = twoPlaces();
        x.place(1, 5);
        box(x, 9, 100);
        box(x, 8, 5);
        x.move(0, 0, 1, 0, 0);
        x.move(1, 2, 1, 0, 0);
        box(x, 7, 995);
        Checks.answers("full ones beside and within do not bar", 0, () -> x.move(2, 1, 1, 0, 0));
    }
}
