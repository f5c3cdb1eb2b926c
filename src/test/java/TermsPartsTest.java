/** 'Terms': hours, places, loads, objects, sizes, grams, keys, boxes and persons, the least and the greatest. */
final class TermsPartsTest {
    public static void main(String[] args) {
        Heading terms = new Heading("Terms");
        terms.says("HOURS are 0 .. 1000000", TermsPartsTest::hoursFromZero);
        terms.says("HOURS are 0 .. 1000000", TermsPartsTest::hoursUpToTheLast);
        terms.says("the PRESENT one (0 at first)", TermsPartsTest::presentAtFirst);
        terms.says("never goes down", TermsPartsTest::presentNeverGoesDown);
        terms.says("PLACES are 0 .. 23", TermsPartsTest::placesUpTo23);
        terms.says("each in another one or in none", TermsPartsTest::placesWithinPlaces);
        terms.says("with a LOAD in grams, 1 .. 1000000000", TermsPartsTest::leastLoad);
        terms.says("with a LOAD in grams, 1 .. 1000000000", TermsPartsTest::greatestLoad);
        terms.says("OBJECTS are 0 .. 19", TermsPartsTest::objectsUpTo19);
        terms.says("with three SIZES 1 .. 10000 in millimetres", TermsPartsTest::sizes);
        terms.says("GRAMS 1 .. 1000000", TermsPartsTest::grams);
        terms.says("and KEYS 0 .. 2 (0 at first)", TermsPartsTest::keys);
        terms.says("some are BOXES", TermsPartsTest::boxes);
        terms.says("PERSONS are 0 .. 9", TermsPartsTest::persons);
        terms.says("some of them with a key", TermsPartsTest::personsWithKeys);
        Checks.end();
    }

    /** Two places, a box and an object that fits into it. */
    private static Run house() {
        Run x = new Run();
        x.place(-1, 1000);
        x.place(-1, 1000);
        x.object(9, 9, 9, 10);
        x.object(5, 5, 5, 10);
        x.box(0);
        return x;
    }

    private static void hoursFromZero() {
        Run x = house();
        Checks.badArgument(x, "move at -1", () -> x.move(0, 0, -1, 0, 0));
        Checks.badArgument(x, "into at -1", () -> x.into(1, 0, -1));
        Checks.badArgument(x, "lost at -1", () -> x.lost(0, -1));
        Checks.badArgument(x, "planned from -1", () -> x.planned(0, 0, -1, 5));
        Checks.badArgument(x, "quiet from -1", () -> x.quiet(0, -1, 5));
        Checks.answers("planned at 0", 0, () -> x.planned(0, 0, 0, 0));
        Checks.answers("move at 0", 0, () -> x.move(0, 0, 0, 0, 0));
        Checks.answers("into at 0", 0, () -> x.into(1, 0, 0));
        Checks.tells("lost at 0", true, () -> x.lost(0, 0));
        Checks.same("the hour of the first row", 0, x.history(0, 0, 0));
    }

    private static void hoursUpToTheLast() {
        Run x = house();
        Checks.badArgument(x, "move at 1000001", () -> x.move(0, 0, 1000001, 0, 0));
        Checks.badArgument(x, "into at 1000001", () -> x.into(1, 0, 1000001));
        Checks.badArgument(x, "lost at 1000001", () -> x.lost(0, 1000001));
        Checks.badArgument(x, "planned to 1000001", () -> x.planned(0, 0, 0, 1000001));
        Checks.answers("planned to 1000000", 0, () -> x.planned(0, 0, 0, 1000000));
        Checks.answers("move at 1000000", 0, () -> x.move(0, 0, 1000000, 0, 0));
        Checks.answers("into at 1000000", 0, () -> x.into(1, 0, 1000000));
        Checks.tells("lost at 1000000", true, () -> x.lost(0, 1000000));
        Checks.same("the hour of the first row", 1000000, x.history(0, 0, 0));
        Checks.same("the present hour", 1000000, x.count(4));
    }

    private static void presentAtFirst() {
        Run x = new Run();
        Checks.same("of a new object", 0, x.count(4));
        Run y = house();
        Checks.same("with places and objects", 0, y.count(4));
    }

    private static void presentNeverGoesDown() {
        Run x = house();
        x.move(0, 0, 5, 0, 0);
        Checks.same("up to the hour of the move", 5, x.count(4));
        Checks.badArgument(x, "move one hour before", () -> x.move(0, 0, 4, 0, 0));
        Checks.badArgument(x, "into one hour before", () -> x.into(1, 0, 4));
        Checks.badArgument(x, "lost one hour before", () -> x.lost(0, 4));
        Checks.badArgument(x, "planned one hour before", () -> x.planned(0, 0, 4, 9));
        Checks.answers("another one in the same hour", 0, () -> x.into(1, 0, 5));
        Checks.same("the same hour still", 5, x.count(4));
        x.quiet(0, 1, 2);
        x.planned(1, 0, 8, 9);
        x.where(0, 3);
        x.used(0, 900);
        Checks.same("no hour that is only named", 5, x.count(4));
    }

    private static void placesUpTo23() {
        Run x = new Run();
        for (int n = 0; n < 24; n++) {
            Checks.same("the number of the next place", n, x.place(-1, 100));
        }
        x.object(1, 1, 1, 10);
        Checks.noPartBut(x, "move to", 24, place -> x.move(0, place, 0, 0, 0));
        Checks.noPartBut(x, "used of", 24, place -> x.used(place, 0));
        Checks.answers("move to 23", 0, () -> x.move(0, 23, 0, 0, 0));
        Checks.same("used of 23", 10, x.used(23, 0));
        Checks.same("used of 22", 0, x.used(22, 0));
    }

    private static void placesWithinPlaces() {
        Run x = new Run();
        for (int n = 0; n < 23; n++) {
            x.place(n - 1, 100);
        }
        x.place(-1, 100);
        x.object(1, 1, 1, 10);
        x.move(0, 22, 0, 0, 0);
        for (int place = 0; place < 23; place++) {
            Checks.same("place 22 lies in " + place, 10, x.used(place, 0));
        }
        Checks.same("but not in 23", 0, x.used(23, 0));
        x.move(0, 23, 1, 0, 0);
        Checks.same("23 lies in none", 0, x.used(0, 1));
    }

    private static void leastLoad() {
        Run x = new Run();
        Checks.badArgument(x, "load 0", () -> x.place(-1, 0));
        Checks.answers("load 1", 0, () -> x.place(-1, 1));
        x.object(1, 1, 1, 2);
        x.object(1, 1, 1, 1);
        Checks.answersIdly(x, "2 grams on load 1", 2, () -> x.move(0, 0, 0, 0, 0));
        Checks.answers("1 gram on load 1", 0, () -> x.move(1, 0, 0, 0, 0));
    }

    private static void greatestLoad() {
        Run x = new Run();
        Checks.badArgument(x, "load 1000000001", () -> x.place(-1, 1000000001));
        Checks.answers("load 1000000000", 0, () -> x.place(-1, 1000000000));
        for (int n = 0; n < 20; n++) {
            int object = x.object(1, 1, 1, 1000000);
            Checks.answers("the heaviest object " + n, 0, () -> x.move(object, 0, 0, 0, 0));
        }
        Checks.same("all of them", 20000000, x.used(0, 0));
    }

    private static void objectsUpTo19() {
        Run x = new Run();
        x.place(-1, 100);
        for (int n = 0; n < 20; n++) {
            Checks.same("the number of the next object", n, x.object(1, 1, 1, 1));
        }
        Checks.noPartBut(x, "where is", 20, object -> x.where(object, 0));
        Checks.noPartBut(x, "move of", 20, object -> x.move(object, 0, 0, 0, 0));
        Checks.answers("move of 19", 0, () -> x.move(19, 0, 0, 0, 0));
        Checks.same("where 19 is", 0, x.where(19, 0));
        Checks.same("where 18 is", -1, x.where(18, 0));
    }

    private static void sizes() {
        Run x = new Run();
        Checks.onlyWithin(x, "the first size", 1, 10000, size -> x.object(size, 5, 5, 5));
        Checks.onlyWithin(x, "the second size", 1, 10000, size -> x.object(5, size, 5, 5));
        Checks.onlyWithin(x, "the third size", 1, 10000, size -> x.object(5, 5, size, 5));
        Checks.answers("all sizes the least", 0, () -> x.object(1, 1, 1, 5));
        Checks.answers("all sizes the greatest", 1, () -> x.object(10000, 10000, 10000, 5));
    }

    private static void grams() {
        Run x = new Run();
        Checks.onlyWithin(x, "grams", 1, 1000000, grams -> x.object(5, 5, 5, grams));
        Checks.answers("the least grams", 0, () -> x.object(5, 5, 5, 1));
        Checks.answers("the greatest grams", 1, () -> x.object(5, 5, 5, 1000000));
        x.place(-1, 1000001);
        x.move(0, 0, 0, 0, 0);
        Checks.same("the least weight", 1, x.used(0, 0));
        x.move(1, 0, 0, 0, 0);
        Checks.same("the least and the greatest", 1000001, x.used(0, 0));
    }

    private static void keys() {
        Run x = house();
        Checks.answers("0 at first, of any object", 0, () -> x.keys(1, 2));
        Checks.answers("0 at first, of another one", 0, () -> x.keys(0, 0));
        Checks.onlyWithin(x, "keys", 0, 2, n -> x.keys(1, n));
        Checks.answers("the greatest stays", 2, () -> x.keys(1, 0));
        Checks.answers("the least", 0, () -> x.keys(1, 1));
    }

    private static void boxes() {
        Run x = house();
        x.object(7, 7, 7, 10);
        Checks.answersIdly(x, "an object is no box at first", 1, () -> x.into(1, 2, 0));
        Checks.answers("one that became a box", 0, () -> x.into(1, 0, 0));
        Checks.answersIdly(x, "the other is still none", 1, () -> x.into(1, 2, 0));
    }

    private static void persons() {
        Run x = house();
        Checks.noPartBut(x, "a key for", 10, person -> x.key(person, true));
        Checks.noPartBut(x, "a is", 10, person -> x.move(0, 0, 0, person, 0));
        Checks.noPartBut(x, "b is", 10, person -> x.move(0, 0, 0, 0, person));
        Checks.tells("the first person", true, () -> x.key(0, true));
        Checks.tells("the last person", true, () -> x.key(9, true));
        x.keys(0, 2);
        Checks.answers("the first and the last move it", 0, () -> x.move(0, 0, 0, 0, 9));
        Checks.answers("and the other way round", 0, () -> x.move(0, 1, 0, 9, 0));
    }

    private static void personsWithKeys() {
        for (int holder = 0; holder < 10; holder++) {
            Run x = house();
            x.keys(0, 1);
            x.key(holder, true);
            for (int person = 0; person < 10; person++) {
                int a = person;
                String due = a == holder ? "0" : "IllegalStateException";
                Checks.same("person " + a + ", the key is with " + holder, due,
                        Checks.outcome(() -> x.move(0, 0, 0, a, a)));
            }
        }
    }
}
