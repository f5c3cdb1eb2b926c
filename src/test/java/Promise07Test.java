/** Promise 7: move. */
final class Promise07Test {
    public static void main(String[] args) {
        Heading promise = new Heading("Promise 7: move");
        promise.says("Moves an object to a place: 0", Promise07Test::moves);
        promise.says("Moves an object to a place: 0", Promise07Test::movesToWhereItIs);
        promise.says("1 if a quiet time bars that", Promise07Test::quietTimeBars);
        promise.says("1 if a quiet time bars that; 2 if it may not come there", Promise07Test::quietTimeBeforeLoad);
        promise.says("2 if it may not come there", Promise07Test::loads);
        promise.says("2 if it may not come there", Promise07Test::loadsAhead);
        promise.says("2 if it may not come there", Promise07Test::boxesComeWhole);
        promise.says("(Out of the box that it is in, if so.)", Promise07Test::outOfTheBox);
        promise.says("(Out of the box that it is in, if so.)", Promise07Test::outOfABoxThatIsNowhere);
        promise.says("The present hour becomes hour then (at 0).", Promise07Test::presentHour);
        promise.says("NoSuchElementException", Promise07Test::noSuchPart);
        promise.says("IllegalArgumentException: hour is below the present one", Promise07Test::hourThatIsGone);
        promise.says("or above 1000000", Promise07Test::hourTooLate);
        promise.says("IllegalStateException: the object has 40 rows", Promise07Test::fortyRows);
        promise.says("or it needs one key and person a has none", Promise07Test::oneKey);
        promise.says("or two and a and b have not both one", Promise07Test::twoKeys);
        promise.says("or are the same", Promise07Test::theSamePerson);
        promise.says("or it needs one key and person a has none, or two and a and b have not both one, or are the same",
                Promise07Test::allKeysAndPersons);
        Checks.end();
    }

    /** Place 1 lies in 0, and 2 in 1; 3 lies in none. */
    private static Run hall() {
        Run x = new Run();
        x.place(-1, 1000);
        x.place(0, 500);
        x.place(1, 300);
        x.place(-1, 1000);
        return x;
    }

    private static void moves() {
        Run x = hall();
        x.object(1, 1, 1, 100);
        Checks.answers("from nowhere", 0, () -> x.move(0, 3, 2, 0, 0));
        Checks.answers("to another place", 0, () -> x.move(0, 2, 4, 0, 0));
        Checks.same("not before", 3, x.where(0, 3));
        Checks.same("there", 2, x.where(0, 4));
        Checks.same("two rows", 2, x.count(5));
        x.lost(0, 5);
        Checks.answers("found again", 0, () -> x.move(0, 1, 5, 0, 0));
        Checks.same("there in the same hour", 1, x.where(0, 5));
    }

    private static void movesToWhereItIs() {
        Run x = hall();
        x.object(1, 1, 1, 300);
        x.move(0, 2, 1, 0, 0);
        Checks.answers("where it is, and the place is full", 0, () -> x.move(0, 2, 1, 0, 0));
        Checks.same("that is a row too", 2, x.count(5));
        Checks.same("it weighs once", 300, x.used(2, 1));
    }

    private static void quietTimeBars() {
        Run x = hall();
        x.object(1, 1, 1, 100);
        x.quiet(3, 5, 6);
        Checks.answersIdly(x, "in, the first hour", 1, () -> x.move(0, 3, 5, 0, 0));
        Checks.answersIdly(x, "in, the last hour", 1, () -> x.move(0, 3, 6, 0, 0));
        Checks.answers("in, the hour before", 0, () -> x.move(0, 3, 4, 0, 0));
        Checks.answersIdly(x, "out, the first hour", 1, () -> x.move(0, 0, 5, 0, 0));
        Checks.answersIdly(x, "out, the last hour", 1, () -> x.move(0, 0, 6, 0, 0));
        Checks.answers("out, the hour behind", 0, () -> x.move(0, 0, 7, 0, 0));
    }

    private static void quietTimeBeforeLoad() {
        Run x = hall();
        x.object(1, 1, 1, 301);
        x.quiet(2, 5, 5);
        Checks.answersIdly(x, "both bar", 1, () -> x.move(0, 2, 5, 0, 0));
        Checks.answersIdly(x, "the load alone, before", 2, () -> x.move(0, 2, 4, 0, 0));
        Checks.answersIdly(x, "the load alone, behind", 2, () -> x.move(0, 2, 6, 0, 0));
    }

    private static void loads() {
        Run x = hall();
        for (int grams : new int[] {300, 200, 201, 500, 501, 1}) {
            x.object(1, 1, 1, grams);
        }
        Checks.answers("just the load", 0, () -> x.move(0, 2, 1, 0, 0));
        Checks.answersIdly(x, "a gram above the load of the place", 2, () -> x.move(5, 2, 1, 0, 0));
        Checks.answersIdly(x, "a gram above the load of the one around", 2, () -> x.move(2, 1, 1, 0, 0));
        Checks.answers("just the load of the one around", 0, () -> x.move(1, 1, 1, 0, 0));
        Checks.answersIdly(x, "a gram above the load of the outermost", 2, () -> x.move(4, 0, 1, 0, 0));
        Checks.answers("just the load of the outermost", 0, () -> x.move(3, 0, 1, 0, 0));
        Checks.answersIdly(x, "the outermost is full", 2, () -> x.move(5, 0, 1, 0, 0));
        Checks.answers("within the full one all may move", 0, () -> x.move(1, 0, 1, 0, 0));
        Checks.answers("out of the full one", 0, () -> x.move(3, 3, 2, 0, 0));
        Checks.answers("room again", 0, () -> x.move(2, 0, 2, 0, 0));
    }

    private static void loadsAhead() {
        Run x = hall();
        x.object(1, 1, 1, 200);
        x.object(1, 1, 1, 150);
        x.object(1, 1, 1, 350);
        Checks.answers("a plan far ahead", 0, () -> x.planned(0, 2, 900, 1000));
        Checks.answersIdly(x, "the plan holds the room", 2, () -> x.move(1, 2, 1, 0, 0));
        Checks.answersIdly(x, "the plan holds room in the one around", 2, () -> x.move(2, 1, 1, 0, 0));
        Checks.answersIdly(x, "at the end of the plan", 2, () -> x.move(1, 2, 1000, 0, 0));
        Checks.answers("the planned one itself comes", 0, () -> x.move(0, 2, 1, 0, 0));
        Checks.answers("and goes, and the plan stays", 0, () -> x.move(0, 3, 2, 0, 0));
        Checks.answersIdly(x, "so the room is held still", 2, () -> x.move(1, 2, 2, 0, 0));
        Checks.answers("after the plan", 0, () -> x.move(1, 2, 1001, 0, 0));
    }

    private static void boxesComeWhole() {
        Run x = hall();
        x.object(9, 9, 9, 100);
        x.object(8, 8, 8, 100);
        x.object(7, 7, 7, 101);
        x.box(0);
        x.box(1);
        x.into(1, 0, 0);
        x.into(2, 1, 0);
        Checks.answersIdly(x, "the box with all that is in it", 2, () -> x.move(0, 2, 1, 0, 0));
        Checks.answers("the box where it has room", 0, () -> x.move(0, 1, 1, 0, 0));
        Checks.same("what is in it came", 1, x.where(2, 1));
        Checks.same("all weigh", 301, x.used(1, 1));
        Checks.answers("the inner one goes out", 0, () -> x.move(2, 3, 2, 0, 0));
        Checks.answers("then the box may come", 0, () -> x.move(0, 2, 2, 0, 0));
        Checks.same("the box in the box", 2, x.where(1, 2));
    }

    private static void outOfTheBox() {
        Run x = hall();
        x.object(9, 9, 9, 100);
        x.object(8, 8, 8, 100);
        x.box(0);
        x.move(0, 0, 1, 0, 0);
        x.into(1, 0, 1);
        Checks.answers("out of the box, at the same place", 0, () -> x.move(1, 0, 2, 0, 0));
        Checks.same("the row is one at a place", 0, x.history(1, 1, 1));
        x.move(0, 3, 3, 0, 0);
        Checks.same("it stays when the box goes", 0, x.where(1, 3));
        Checks.same("it was with the box before", 0, x.where(1, 1));
    }

    private static void outOfABoxThatIsNowhere() {
        Run x = hall();
        x.object(9, 9, 9, 100);
        x.object(8, 8, 8, 100);
        x.box(0);
        x.into(1, 0, 1);
        Checks.answers("out of a box without rows", 0, () -> x.move(1, 2, 2, 0, 0));
        Checks.same("there", 2, x.where(1, 2));
        Checks.same("the box is still nowhere", -1, x.where(0, 2));
        x.move(0, 0, 3, 0, 0);
        x.into(1, 0, 3);
        x.lost(0, 4);
        Checks.answers("out of a box that is lost", 0, () -> x.move(1, 3, 4, 0, 0));
        Checks.same("there", 3, x.where(1, 4));
    }

    private static void presentHour() {
        Run x = hall();
        x.object(1, 1, 1, 301);
        x.object(1, 1, 1, 1);
        x.quiet(3, 9, 9);
        Checks.answers("at 0", 0, () -> x.move(0, 0, 5, 0, 0));
        Checks.same("the present hour", 5, x.count(4));
        Checks.answersIdly(x, "at 1", 1, () -> x.move(0, 3, 9, 0, 0));
        Checks.answersIdly(x, "at 2", 2, () -> x.move(0, 2, 9, 0, 0));
        Checks.same("it stays", 5, x.count(4));
        Checks.answers("the same hour", 0, () -> x.move(1, 2, 5, 0, 0));
        Checks.same("it stays the same", 5, x.count(4));
        Checks.answers("the next hour", 0, () -> x.move(1, 2, 6, 0, 0));
        Checks.same("it becomes the next one", 6, x.count(4));
    }

    private static void noSuchPart() {
        Run x = hall();
        x.object(1, 1, 1, 100);
        x.object(1, 1, 1, 100);
        x.move(0, 0, 5, 0, 0);
        Checks.noPartBut(x, "object", 2, object -> x.move(object, 0, 5, 0, 0));
        Checks.noPartBut(x, "place", 4, place -> x.move(0, place, 5, 0, 0));
        Checks.noPartBut(x, "person a", 10, a -> x.move(0, 0, 5, a, 0));
        Checks.noPartBut(x, "person b", 10, b -> x.move(0, 0, 5, 0, b));
        Checks.answers("the last of all", 0, () -> x.move(1, 3, 5, 9, 9));
    }

    private static void hourThatIsGone() {
        Run x = hall();
        x.object(1, 1, 1, 100);
        Checks.badArgument(x, "-1, and the present one is 0", () -> x.move(0, 0, -1, 0, 0));
        Checks.badArgument(x, "the least number", () -> x.move(0, 0, Integer.MIN_VALUE, 0, 0));
        x.move(0, 0, 5, 0, 0);
        Checks.badArgument(x, "4, and the present one is 5", () -> x.move(0, 0, 4, 0, 0));
        Checks.badArgument(x, "0, and the present one is 5", () -> x.move(0, 0, 0, 0, 0));
        Checks.answers("the present one", 0, () -> x.move(0, 0, 5, 0, 0));
    }

    private static void hourTooLate() {
        Run x = hall();
        x.object(1, 1, 1, 100);
        Checks.badArgument(x, "1000001", () -> x.move(0, 0, 1000001, 0, 0));
        Checks.badArgument(x, "the greatest number", () -> x.move(0, 0, Integer.MAX_VALUE, 0, 0));
        Checks.answers("1000000", 0, () -> x.move(0, 0, 1000000, 0, 0));
        Checks.answers("1000000 again", 0, () -> x.move(0, 1, 1000000, 0, 0));
        Checks.badArgument(x, "999999 then", () -> x.move(0, 0, 999999, 0, 0));
        Checks.badArgument(x, "1000001 then", () -> x.move(0, 0, 1000001, 0, 0));
        Checks.same("there at the last hour", 1, x.where(0, 1000000));
    }

    private static void fortyRows() {
        Run x = hall();
        x.object(1, 1, 1, 100);
        x.object(1, 1, 1, 100);
        for (int n = 0; n < 40; n++) {
            int place = n % 3;
            Checks.answers("row " + n, 0, () -> x.move(0, place, 7, 0, 0));
        }
        Checks.badState(x, "the 41st row", () -> x.move(0, 1, 7, 0, 0));
        Checks.badState(x, "at a later hour", () -> x.move(0, 1, 8, 0, 0));
        x.quiet(3, 7, 7);
        Checks.badState(x, "though a quiet time would bar it", () -> x.move(0, 3, 7, 0, 0));
        Checks.same("it stays where it was", 0, x.where(0, 8));
        Checks.answers("another object has rows of its own", 0, () -> x.move(1, 0, 7, 0, 0));
        Checks.same("rows of all", 41, x.count(5));
    }

    private static void oneKey() {
        Run x = hall();
        x.object(1, 1, 1, 100);
        x.keys(0, 1);
        x.key(3, true);
        Checks.badState(x, "b alone has one", () -> x.move(0, 0, 1, 4, 3));
        Checks.badState(x, "nobody of them has one", () -> x.move(0, 0, 1, 4, 5));
        Checks.answers("a has one", 0, () -> x.move(0, 0, 1, 3, 4));
        Checks.answers("a has one, and is b", 0, () -> x.move(0, 0, 1, 3, 3));
        x.key(3, false);
        Checks.badState(x, "it was taken", () -> x.move(0, 0, 1, 3, 3));
    }

    private static void twoKeys() {
        Run x = hall();
        x.object(1, 1, 1, 100);
        x.keys(0, 2);
        Checks.badState(x, "nobody has one", () -> x.move(0, 0, 1, 3, 4));
        x.key(3, true);
        Checks.badState(x, "a alone has one", () -> x.move(0, 0, 1, 3, 4));
        Checks.badState(x, "b alone has one", () -> x.move(0, 0, 1, 4, 3));
        x.key(4, true);
        Checks.answers("both have one", 0, () -> x.move(0, 0, 1, 3, 4));
        x.key(3, false);
        Checks.badState(x, "one of them was taken", () -> x.move(0, 0, 1, 3, 4));
    }

    private static void theSamePerson() {
        Run x = hall();
        x.object(1, 1, 1, 100);
        x.key(3, true);
        x.key(4, true);
        x.keys(0, 2);
        Checks.badState(x, "the same person with a key", () -> x.move(0, 0, 1, 3, 3));
        Checks.answers("two persons", 0, () -> x.move(0, 0, 1, 4, 3));
        x.keys(0, 1);
        Checks.answers("the same person for one key", 0, () -> x.move(0, 0, 1, 3, 3));
        x.keys(0, 0);
        Checks.answers("the same person for no key", 0, () -> x.move(0, 0, 1, 0, 0));
    }

    private static void allKeysAndPersons() {
        for (int keys = 0; keys <= 2; keys++) {
            Run x = hall();
            x.object(1, 1, 1, 100);
            x.keys(0, keys);
            x.key(0, true);
            x.key(1, true);
            for (int ab = 0; ab < 16; ab++) {
                int a = ab / 4;
                int b = ab % 4;
                boolean enough = keys == 0 || keys == 1 && a < 2 || keys == 2 && a < 2 && b < 2 && a != b;
                String due = enough ? "0" : "IllegalStateException";
                Checks.same(keys + " keys, persons " + a + " " + b, due,
                        Checks.outcome(() -> x.move(0, 0, 1, a, b)));
            }
        }
    }
}
