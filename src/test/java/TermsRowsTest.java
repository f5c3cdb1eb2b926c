/** 'Terms': rows, what holds at an hour, where an object is, and in which places. */
final class TermsRowsTest {
    public static void main(String[] args) {
        Heading terms = new Heading("Terms");
        terms.says("Each object has ROWS, at most 40", TermsRowsTest::fortyRowsByMoves);
        terms.says("Each object has ROWS, at most 40", TermsRowsTest::fortyRowsOfAllKinds);
        terms.says("Each object has ROWS, at most 40", TermsRowsTest::rowsOfEachObject);
        terms.says("an hour, and 0 a place, 1 a box, or 2 that it was LOST", TermsRowsTest::kindsOfRows);
        terms.says("What holds at an hour is the last row whose hour is not above it", TermsRowsTest::hourOfARow);
        terms.says("What holds at an hour is the last row whose hour is not above it", TermsRowsTest::rowsOfOneHour);
        terms.says("It IS at an hour where its row says", TermsRowsTest::whereItsRowSays);
        terms.says("or where the box is", TermsRowsTest::whereTheBoxIs);
        terms.says("or where the box is", TermsRowsTest::whereTheBoxWasBefore);
        terms.says("or where the box is", TermsRowsTest::inAsManyBoxesAsThereMayBe);
        terms.says("nowhere if it has no row then", TermsRowsTest::noRowThen);
        terms.says("nowhere if it has no row then, or is lost", TermsRowsTest::lost);
        terms.says("or the box is nowhere", TermsRowsTest::boxWithoutRow);
        terms.says("or the box is nowhere", TermsRowsTest::boxLost);
        terms.says("or the box is nowhere", TermsRowsTest::boxInABoxThatIsNowhere);
        terms.says("It is IN a place at an hour if it is there", TermsRowsTest::inThePlaceItself);
        terms.says("or in one that lies in that place, over any others", TermsRowsTest::inPlacesAround);
        Checks.end();
    }

    /** Three places, the second in the first; three boxes, each of which fits into those before. */
    private static Run house() {
        Run x = new Run();
        x.place(-1, 1000);
        x.place(0, 1000);
        x.place(-1, 1000);
        for (int n = 0; n < 3; n++) {
            x.object(9 - n, 9 - n, 9 - n, 10);
            x.box(n);
        }
        return x;
    }

    private static void fortyRowsByMoves() {
        Run x = house();
        for (int n = 0; n < 40; n++) {
            int hour = n;
            Checks.answers("row " + n, 0, () -> x.move(0, 0, hour, 0, 0));
        }
        Checks.badState(x, "the 41st row", () -> x.move(0, 0, 40, 0, 0));
        Checks.same("the hour of row 39", 39, x.history(0, 39, 0));
        Checks.noPart(x, "row 40", () -> x.history(0, 40, 0));
    }

    private static void fortyRowsOfAllKinds() {
        Run x = house();
        for (int n = 0; n < 13; n++) {
            x.move(1, 0, n, 0, 0);
            x.into(1, 0, n);
            x.move(1, 0, n, 0, 0);
        }
        Checks.tells("the 40th row", true, () -> x.lost(1, 13));
        Checks.same("40 rows", 40, x.count(5));
        Checks.badState(x, "move as the 41st", () -> x.move(1, 0, 13, 0, 0));
        Checks.badState(x, "into as the 41st", () -> x.into(1, 0, 13));
        Checks.badState(x, "lost as the 41st", () -> x.lost(1, 13));
    }

    private static void rowsOfEachObject() {
        Run x = house();
        for (int n = 0; n < 40; n++) {
            x.move(0, 0, 1, 0, 0);
            x.into(1, 0, 1);
            x.move(2, 2, 1, 0, 0);
        }
        Checks.same("40 rows each", 120, x.count(5));
        Checks.same("the last one of the first", 0, x.history(0, 39, 2));
        Checks.same("the first one of the second", 1, x.history(1, 0, 1));
        Checks.same("the last one of the second", 1, x.history(1, 39, 1));
        Checks.same("the first one of the third", 2, x.history(2, 0, 2));
    }

    private static void kindsOfRows() {
        Run x = house();
        x.move(1, 2, 3, 0, 0);
        x.into(1, 0, 4);
        x.move(1, 1, 5, 0, 0);
        x.lost(1, 6);
        int[][] due = {{3, 0, 2}, {4, 1, 0}, {5, 0, 1}, {6, 2, -1}};
        for (int k = 0; k < due.length; k++) {
            for (int what = 0; what <= 2; what++) {
                Checks.same("row " + k + ", " + what, due[k][what], x.history(1, k, what));
            }
        }
    }

    private static void hourOfARow() {
        Run x = house();
        x.move(0, 0, 10, 0, 0);
        x.move(0, 1, 11, 0, 0);
        x.move(0, 2, 20, 0, 0);
        Checks.same("one hour before the first row", -1, x.where(0, 9));
        Checks.same("the hour of the first row", 0, x.where(0, 10));
        Checks.same("the hour of the second row", 1, x.where(0, 11));
        Checks.same("one hour before the third row", 1, x.where(0, 19));
        Checks.same("the hour of the third row", 2, x.where(0, 20));
        Checks.same("one hour behind the third row", 2, x.where(0, 21));
        Checks.same("the last hour", 2, x.where(0, 1000000));
    }

    private static void rowsOfOneHour() {
        Run x = house();
        x.move(0, 0, 10, 0, 0);
        x.move(0, 1, 10, 0, 0);
        x.move(0, 2, 10, 0, 0);
        Checks.same("the last of three", 2, x.where(0, 10));
        Checks.same("no one before", -1, x.where(0, 9));
        Checks.same("the weight goes by the last one too", 0, x.used(0, 10));
        x.lost(0, 10);
        Checks.same("lost as the last of four", -1, x.where(0, 10));
        x.move(0, 1, 10, 0, 0);
        Checks.same("found as the last of five", 1, x.where(0, 10));
    }

    private static void whereItsRowSays() {
        Run x = house();
        x.move(0, 1, 0, 0, 0);
        Checks.same("the place of its row, not the one around", 1, x.where(0, 0));
    }

    private static void whereTheBoxIs() {
        Run x = house();
        x.move(0, 1, 5, 0, 0);
        x.into(1, 0, 7);
        x.into(2, 1, 7);
        Checks.same("in the box", 1, x.where(1, 7));
        Checks.same("in a box in the box", 1, x.where(2, 7));
        x.move(0, 2, 9, 0, 0);
        Checks.same("one hour before the box moves", 1, x.where(2, 8));
        Checks.same("the hour at which the box moves", 2, x.where(2, 9));
    }

    private static void whereTheBoxWasBefore() {
        Run x = house();
        x.move(0, 1, 5, 0, 0);
        x.move(1, 2, 6, 0, 0);
        x.into(1, 0, 7);
        Checks.same("before it came into the box", 2, x.where(1, 6));
        Checks.same("from that hour on", 1, x.where(1, 7));
        x.move(1, 0, 8, 0, 0);
        x.move(0, 2, 9, 0, 0);
        Checks.same("out of the box it stays", 0, x.where(1, 9));
        Checks.same("but it was in the box", 1, x.where(1, 7));
    }

    private static void inAsManyBoxesAsThereMayBe() {
        Run x = new Run();
        x.place(-1, 1000);
        for (int n = 0; n < 20; n++) {
            x.object(100 - n, 100 - n, 100 - n, 1);
            x.box(n);
        }
        for (int n = 1; n < 20; n++) {
            x.into(n, n - 1, n);
        }
        x.move(0, 0, 30, 0, 0);
        for (int object = 0; object < 20; object++) {
            Checks.same("object " + object + " before the outermost comes", -1, x.where(object, 29));
            Checks.same("object " + object + " when the outermost comes", 0, x.where(object, 30));
        }
        Checks.same("all weigh", 20, x.used(0, 30));
    }

    private static void noRowThen() {
        Run x = house();
        Checks.same("no row at all", -1, x.where(0, 1000000));
        x.move(0, 0, 1, 0, 0);
        Checks.same("no row at hour 0", -1, x.where(0, 0));
        Checks.same("nor a weight", 0, x.used(0, 0));
        Checks.same("another one has no row", -1, x.where(1, 1));
    }

    private static void lost() {
        Run x = house();
        x.move(0, 0, 1, 0, 0);
        x.lost(0, 3);
        Checks.same("one hour before", 0, x.where(0, 2));
        Checks.same("the hour at which it is lost", -1, x.where(0, 3));
        Checks.same("the last hour", -1, x.where(0, 1000000));
        Checks.same("it has a weight before", 10, x.used(0, 2));
        Checks.same("and none then", 0, x.used(0, 3));
    }

    private static void boxWithoutRow() {
        Run x = house();
        x.into(1, 0, 2);
        Checks.same("in a box that never was anywhere", -1, x.where(1, 2));
        x.move(0, 0, 4, 0, 0);
        Checks.same("one hour before the box comes", -1, x.where(1, 3));
        Checks.same("the hour at which the box comes", 0, x.where(1, 4));
    }

    private static void boxLost() {
        Run x = house();
        x.move(0, 0, 1, 0, 0);
        x.into(1, 0, 1);
        x.lost(0, 4);
        Checks.same("one hour before the box is lost", 0, x.where(1, 3));
        Checks.same("the hour at which the box is lost", -1, x.where(1, 4));
        Checks.same("nothing weighs", 0, x.used(0, 4));
    }

    private static void boxInABoxThatIsNowhere() {
        Run x = house();
        x.into(2, 1, 1);
        x.move(1, 0, 2, 0, 0);
        x.into(1, 0, 5);
        Checks.same("before", 0, x.where(2, 4));
        Checks.same("the outer box has no row", -1, x.where(2, 5));
        Checks.same("nothing weighs", 0, x.used(0, 5));
        x.move(0, 2, 6, 0, 0);
        Checks.same("the outer box has come", 2, x.where(2, 6));
    }

    private static void inThePlaceItself() {
        Run x = house();
        x.move(0, 0, 1, 0, 0);
        Checks.same("in the place", 10, x.used(0, 1));
        Checks.same("not in one within", 0, x.used(1, 1));
        Checks.same("not in another", 0, x.used(2, 1));
        Checks.same("not an hour before", 0, x.used(0, 0));
    }

    private static void inPlacesAround() {
        Run x = new Run();
        int[] into = {-1, 0, 1, 1, 2, -1};
        for (int place : into) {
            x.place(place, 1000);
        }
        x.object(5, 5, 5, 10);
        x.move(0, 4, 1, 0, 0);
        int[] due = {10, 10, 10, 0, 10, 0};
        for (int place = 0; place < due.length; place++) {
            Checks.same("in place " + place, due[place], x.used(place, 1));
        }
    }
}
