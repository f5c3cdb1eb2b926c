/** 'Terms': what is thrown, which of them goes first, and that such a call changes nothing. */
final class TermsExceptionsTest {
    public static void main(String[] args) {
        Heading terms = new Heading("Terms");
        String none = "NoSuchElementException: there is no such place, object, person, door, row.";
        String order = "IllegalArgumentException, then IllegalStateException, as told.";
        terms.says(none, TermsExceptionsTest::noSuchPlace);
        terms.says(none, TermsExceptionsTest::noSuchObject);
        terms.says(none, TermsExceptionsTest::noSuchPerson);
        terms.says(none, TermsExceptionsTest::noSuchDoor);
        terms.says(none, TermsExceptionsTest::noSuchRow);
        terms.says(order, TermsExceptionsTest::orderOfParts);
        terms.says(order, TermsExceptionsTest::orderOfMove);
        terms.says(order, TermsExceptionsTest::orderOfInto);
        terms.says(order, TermsExceptionsTest::orderOfLostAndHistory);
        terms.says(order, TermsExceptionsTest::orderOfDoor);
        terms.says(order, TermsExceptionsTest::orderOfPlanned);
        terms.says(order, TermsExceptionsTest::orderOfQuiet);
        terms.says("Such a call changes nothing.", TermsExceptionsTest::refusedCallsLeaveAllAsItWas);
        Checks.end();
    }

    /** Two places, two objects, one door, no row. */
    private static Run house() {
        Run x = new Run();
        x.place(-1, 1000);
        x.place(0, 1000);
        x.object(9, 9, 9, 10);
        x.object(5, 5, 5, 10);
        x.box(0);
        x.door(0, 1, 5, 5);
        return x;
    }

    /** As many of all as there may be; object 0 is a box with its 40 rows and needs keys; the present hour is 5. */
    private static Run full() {
        Run x = new Run();
        for (int n = 0; n < 24; n++) {
            x.place(-1, 1000);
        }
        for (int n = 0; n < 20; n++) {
            x.object(20 - n, 20 - n, 20 - n, 10);
        }
        for (int n = 0; n < 40; n++) {
            x.door(0, 1, 5, 5);
        }
        for (int n = 0; n < 30; n++) {
            x.planned(1, 1, 8, 9);
        }
        for (int n = 0; n < 20; n++) {
            x.quiet(2, 6, 6);
        }
        for (int n = 0; n < 40; n++) {
            x.move(0, 0, 5, 0, 0);
        }
        x.box(0);
        x.keys(0, 2);
        return x;
    }

    private static void noSuchPlace() {
        Run x = house();
        Checks.noPart(x, "place in the first one beyond", () -> x.place(2, 5));
        Checks.noPart(x, "place in -2", () -> x.place(-2, 5));
        Checks.noPartBut(x, "move to place", 2, p -> x.move(0, p, 0, 0, 0));
        Checks.noPartBut(x, "door from place", 2, p -> x.door(p, 0, 5, 5));
        Checks.noPartBut(x, "door to place", 2, p -> x.door(0, p, 5, 5));
        Checks.noPartBut(x, "way to place", 2, p -> x.way(0, p));
        Checks.noPartBut(x, "planned at place", 2, p -> x.planned(0, p, 0, 0));
        Checks.noPartBut(x, "used of place", 2, p -> x.used(p, 0));
        Checks.noPartBut(x, "quiet place", 2, p -> x.quiet(p, 0, 0));
    }

    private static void noSuchObject() {
        Run x = house();
        Checks.noPartBut(x, "keys of object", 2, o -> x.keys(o, 1));
        Checks.noPartBut(x, "box of object", 2, o -> x.box(o));
        Checks.noPartBut(x, "move of object", 2, o -> x.move(o, 0, 0, 0, 0));
        Checks.noPartBut(x, "into of object", 2, o -> x.into(o, 0, 0));
        Checks.noPartBut(x, "into box", 2, o -> x.into(1, o, 0));
        Checks.noPartBut(x, "lost object", 2, o -> x.lost(o, 0));
        Checks.noPartBut(x, "where object", 2, o -> x.where(o, 0));
        Checks.noPartBut(x, "last of object", 2, o -> x.last(o));
        Checks.noPartBut(x, "history of object", 2, o -> x.history(o, 0, 0));
        Checks.noPartBut(x, "passes object", 2, o -> x.passes(o, 0));
        Checks.noPartBut(x, "way of object", 2, o -> x.way(o, 0));
        Checks.noPartBut(x, "planned object", 2, o -> x.planned(o, 0, 0, 0));
    }

    private static void noSuchPerson() {
        Run x = house();
        Checks.noPartBut(x, "key of person", 10, p -> x.key(p, true));
        Checks.noPartBut(x, "no key of person", 10, p -> x.key(p, false));
        Checks.noPartBut(x, "move by person", 10, p -> x.move(0, 0, 0, p, 0));
        Checks.noPartBut(x, "move with person", 10, p -> x.move(0, 0, 0, 0, p));
        x.key(0, true);
        x.keys(0, 1);
        Checks.noPartBut(x, "move with person, whose key is not needed", 10, p -> x.move(0, 0, 0, 0, p));
        x.keys(0, 2);
        Checks.noPartBut(x, "move with person, whose key is needed", 10, p -> x.move(0, 0, 0, 0, p));
    }

    private static void noSuchDoor() {
        Run x = house();
        Checks.noPartBut(x, "passes door", 1, d -> x.passes(0, d));
        x.door(0, 1, 5, 5);
        Checks.noPartBut(x, "passes door", 2, d -> x.passes(0, d));
    }

    private static void noSuchRow() {
        Run x = house();
        Checks.noPartBut(x, "history of no rows, row", 0, k -> x.history(0, k, 0));
        x.move(0, 0, 0, 0, 0);
        Checks.noPartBut(x, "history of one row, row", 1, k -> x.history(0, k, 0));
        Checks.noPartBut(x, "history of the other one, row", 0, k -> x.history(1, k, 0));
    }

    private static void orderOfParts() {
        Run x = full();
        Checks.noPart(x, "place: no such place, load, 24", () -> x.place(24, 0));
        Checks.noPart(x, "place: no such place, 24", () -> x.place(24, 1));
        Checks.badArgument(x, "place: load, 24", () -> x.place(-1, 0));
        Checks.badState(x, "place: 24", () -> x.place(-1, 1));
        Checks.badArgument(x, "object: size, 20", () -> x.object(1, 1, 0, 1));
        Checks.badArgument(x, "object: grams, 20", () -> x.object(1, 1, 1, 0));
        Checks.badState(x, "object: 20", () -> x.object(1, 1, 1, 1));
        Checks.noPart(x, "keys: no such object, n", () -> x.keys(20, 3));
        Checks.badArgument(x, "keys: n", () -> x.keys(0, 3));
    }

    private static void orderOfMove() {
        Run x = full();
        Checks.noPart(x, "no such object, hour", () -> x.move(20, 0, 4, 0, 0));
        Checks.noPart(x, "no such place, hour, 40 rows, keys", () -> x.move(0, 24, 4, 0, 0));
        Checks.noPart(x, "no such person a, hour, 40 rows, keys", () -> x.move(0, 0, 4, 10, 0));
        Checks.noPart(x, "no such person b, hour, 40 rows, keys", () -> x.move(0, 0, 4, 0, 10));
        Checks.noPart(x, "no such person b, 40 rows, keys", () -> x.move(0, 0, 5, 0, 10));
        Checks.badArgument(x, "hour that is gone, 40 rows, keys", () -> x.move(0, 0, 4, 0, 0));
        Checks.badArgument(x, "hour too late, 40 rows, keys", () -> x.move(0, 0, 1000001, 0, 0));
        Checks.badState(x, "40 rows, keys", () -> x.move(0, 0, 5, 0, 0));
        Checks.badState(x, "40 rows, keys, a quiet time", () -> x.move(0, 2, 6, 0, 0));
        x.keys(1, 1);
        Checks.badArgument(x, "hour that is gone, keys", () -> x.move(1, 0, 4, 0, 0));
        Checks.badState(x, "keys, a quiet time", () -> x.move(1, 2, 6, 0, 0));
        x.keys(1, 0);
        Checks.answersIdly(x, "a quiet time", 1, () -> x.move(1, 2, 6, 0, 0));
    }

    private static void orderOfInto() {
        Run x = full();
        Checks.noPart(x, "no such object, hour", () -> x.into(20, 0, 4));
        Checks.noPart(x, "no such box, hour, 40 rows", () -> x.into(0, 20, 4));
        Checks.noPart(x, "no such box, 40 rows", () -> x.into(0, 20, 5));
        Checks.badArgument(x, "hour that is gone, 40 rows, no box", () -> x.into(0, 1, 4));
        Checks.badArgument(x, "hour too late, 40 rows, the same one", () -> x.into(0, 0, 1000001));
        Checks.badState(x, "40 rows, the same one, keys", () -> x.into(0, 0, 5));
        Checks.badArgument(x, "hour that is gone, no box", () -> x.into(1, 2, 4));
        Checks.answersIdly(x, "no box", 1, () -> x.into(1, 2, 5));
    }

    private static void orderOfLostAndHistory() {
        Run x = full();
        Checks.noPart(x, "lost: no such object, hour", () -> x.lost(20, 4));
        Checks.badArgument(x, "lost: hour that is gone, 40 rows", () -> x.lost(0, 4));
        Checks.badArgument(x, "lost: hour too late, 40 rows", () -> x.lost(0, 1000001));
        Checks.badState(x, "lost: 40 rows", () -> x.lost(0, 5));
        Checks.badArgument(x, "lost: hour that is gone, of one nowhere", () -> x.lost(1, 4));
        Checks.tellsIdly(x, "lost: of one nowhere", false, () -> x.lost(1, 5));
        Checks.noPart(x, "history: no such object, what", () -> x.history(20, 0, 3));
        Checks.noPart(x, "history: no such row, what", () -> x.history(0, 40, 3));
        Checks.noPart(x, "history: no row, what", () -> x.history(1, 0, -1));
        Checks.badArgument(x, "history: what", () -> x.history(0, 39, 3));
    }

    private static void orderOfDoor() {
        Run x = full();
        Checks.noPart(x, "no such place a, size, 40", () -> x.door(24, 0, 0, 5));
        Checks.noPart(x, "no such place b, size, 40", () -> x.door(0, 24, 5, 0));
        Checks.noPart(x, "no such places, the same, 40", () -> x.door(24, 24, 5, 5));
        Checks.badArgument(x, "the same, 40", () -> x.door(23, 23, 5, 5));
        Checks.badArgument(x, "w, 40", () -> x.door(0, 1, 0, 5));
        Checks.badArgument(x, "h, 40", () -> x.door(0, 1, 5, 10001));
        Checks.badState(x, "40", () -> x.door(0, 1, 5, 5));
    }

    private static void orderOfPlanned() {
        Run x = full();
        Checks.noPart(x, "no such object, from, 30", () -> x.planned(20, 0, 4, 9));
        Checks.noPart(x, "no such place, to, 30", () -> x.planned(0, 24, 9, 8));
        Checks.badArgument(x, "from, 30", () -> x.planned(0, 0, 4, 9));
        Checks.badArgument(x, "to below from, 30", () -> x.planned(0, 0, 9, 8));
        Checks.badArgument(x, "to too late, 30", () -> x.planned(0, 0, 9, 1000001));
        Checks.badState(x, "30", () -> x.planned(0, 0, 5, 5));
        Run y = new Run();
        y.place(-1, 5);
        y.object(1, 1, 1, 5);
        y.object(1, 1, 1, 6);
        for (int n = 0; n < 30; n++) {
            y.planned(0, 0, 5, 5);
        }
        Checks.badState(y, "30, above the load", () -> y.planned(1, 0, 5, 5));
    }

    private static void orderOfQuiet() {
        Run x = full();
        Checks.noPart(x, "no such place, from, 20", () -> x.quiet(24, -1, 5));
        Checks.noPart(x, "no such place, 20", () -> x.quiet(-1, 5, 5));
        Checks.badArgument(x, "from, 20", () -> x.quiet(0, -1, 5));
        Checks.badArgument(x, "to, 20", () -> x.quiet(0, 5, 4));
        Checks.badState(x, "20", () -> x.quiet(0, 5, 5));
    }

    private static void refusedCallsLeaveAllAsItWas() {
        Run x = house();
        x.key(3, true);
        x.keys(0, 1);
        x.move(0, 1, 5, 3, 0);
        x.into(1, 0, 6);
        x.planned(1, 0, 7, 9);
        x.quiet(1, 8, 8);
        Checks.badArgument(x, "place", () -> x.place(1, 0));
        Checks.badArgument(x, "object", () -> x.object(1, 10001, 1, 1));
        Checks.badArgument(x, "keys", () -> x.keys(0, 3));
        Checks.noPart(x, "key", () -> x.key(10, true));
        Checks.noPart(x, "box", () -> x.box(2));
        Checks.badState(x, "move", () -> x.move(0, 0, 9, 0, 3));
        Checks.badArgument(x, "into", () -> x.into(1, 0, 5));
        Checks.badArgument(x, "lost", () -> x.lost(0, 1000001));
        Checks.noPart(x, "where", () -> x.where(2, 9));
        Checks.noPart(x, "last", () -> x.last(-1));
        Checks.badArgument(x, "history", () -> x.history(0, 0, 3));
        Checks.badArgument(x, "door", () -> x.door(0, 1, 10001, 5));
        Checks.noPart(x, "passes", () -> x.passes(0, 1));
        Checks.noPart(x, "way", () -> x.way(0, 2));
        Checks.badArgument(x, "planned", () -> x.planned(0, 1, 7, 1000001));
        Checks.noPart(x, "used", () -> x.used(2, 9));
        Checks.badArgument(x, "quiet", () -> x.quiet(0, 7, 6));
        Checks.badArgument(x, "count", () -> x.count(6));
        int[] due = {2, 2, 1, 1, 6, 2};
        for (int what = 0; what < due.length; what++) {
            Checks.same("count " + what, due[what], x.count(what));
        }
        Checks.same("keys of the first object", 1, x.keys(0, 0));
        Checks.answers("the hour of the quiet time bars still", 1, () -> x.move(0, 0, 8, 0, 0));
        Checks.answers("the hour before does not", 0, () -> x.move(0, 0, 7, 0, 0));
    }
}
