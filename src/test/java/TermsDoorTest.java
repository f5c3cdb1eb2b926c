/** 'Terms': when a thing passes a door. */
final class TermsDoorTest {
    public static void main(String[] args) {
        Heading terms = new Heading("Terms");
        terms.says("if one of its three faces does so", TermsDoorTest::anyFace);
        terms.says("if one of its three faces does so", TermsDoorTest::noFace);
        terms.says("(p the greater, or as great)", TermsDoorTest::sidesOfAFace);
        terms.says("(p the greater, or as great)", TermsDoorTest::squareFace);
        terms.says("(w the greater, or as great)", TermsDoorTest::sidesOfADoor);
        terms.says("(w the greater, or as great)", TermsDoorTest::squareDoor);
        terms.says("if p is not above w", TermsDoorTest::greaterSide);
        terms.says("and q not above h", TermsDoorTest::lesserSide);
        terms.says("or if q is not above h and", TermsDoorTest::lesserSideOfATurnedFace);
        terms.says("is not below 2 * (p * p - q * q) * (p * p - q * q)", TermsDoorTest::turnedWithNothingToSpare);
        terms.says("is not below 2 * (p * p - q * q) * (p * p - q * q)", TermsDoorTest::turnedByALot);
        terms.says("(w + h) * (w + h) * (p - q) * (p - q) + (w - h) * (w - h) * (p + q) * (p + q)",
                TermsDoorTest::greatNumbers);
        Checks.end();
    }

    private static void passes(boolean due, int w, int h, int d, int doorW, int doorH) {
        Run x = new Run();
        x.place(-1, 9);
        x.place(-1, 9);
        x.object(w, h, d, 1);
        x.door(0, 1, doorW, doorH);
        String call = w + " " + h + " " + d + " through " + doorW + " " + doorH;
        Checks.tells(call, due, () -> x.passes(0, 0));
    }

    /** The third size is so great that only the face of the first two can pass. */
    private static void face(boolean due, int p, int q, int doorW, int doorH) {
        passes(due, p, q, 10000, doorW, doorH);
    }

    private static void anyFace() {
        passes(true, 20, 10, 999, 20, 10);
        passes(true, 20, 999, 10, 20, 10);
        passes(true, 999, 20, 10, 20, 10);
        passes(true, 10, 20, 999, 20, 10);
        passes(true, 10, 999, 20, 20, 10);
        passes(true, 999, 10, 20, 20, 10);
    }

    private static void noFace() {
        passes(false, 21, 11, 999, 20, 10);
        passes(false, 999, 999, 1, 20, 10);
        passes(false, 11, 11, 11, 20, 10);
        passes(false, 10, 21, 21, 20, 10);
    }

    private static void sidesOfAFace() {
        face(true, 30, 10, 30, 10);
        face(true, 10, 30, 30, 10);
        face(false, 10, 31, 30, 10);
        face(false, 11, 30, 30, 10);
    }

    private static void squareFace() {
        face(true, 10, 10, 30, 10);
        face(true, 10, 10, 10, 10);
        face(false, 11, 11, 30, 10);
        face(false, 10, 10, 10, 9);
        passes(true, 10, 10, 10, 10, 10);
        passes(false, 10, 10, 10, 10, 9);
        passes(true, 1, 1, 1, 1, 1);
    }

    private static void sidesOfADoor() {
        face(true, 30, 10, 10, 30);
        face(false, 31, 10, 10, 30);
        face(false, 30, 11, 10, 30);
        face(true, 20, 5, 16, 19);
    }

    private static void squareDoor() {
        face(true, 20, 20, 20, 20);
        face(true, 20, 1, 20, 20);
        face(false, 21, 20, 20, 20);
        // A square door of 20 lets a thin thing through up to its diagonal of 28.28.
        face(true, 27, 1, 20, 20);
        face(false, 28, 1, 20, 20);
    }

    private static void greaterSide() {
        face(true, 29, 10, 30, 10);
        face(true, 30, 10, 30, 10);
        face(false, 31, 10, 30, 10);
        // Straight these pass with room to spare, though the products would not let them.
        face(true, 19, 18, 20, 20);
        face(true, 9999, 9998, 10000, 10000);
    }

    private static void lesserSide() {
        face(true, 30, 9, 30, 10);
        face(true, 30, 10, 30, 10);
        face(false, 30, 11, 30, 10);
    }

    private static void lesserSideOfATurnedFace() {
        // The products alone would let these through.
        face(false, 12, 12, 1000, 11);
        face(false, 1000, 7, 1000, 6);
        face(false, 2, 2, 10000, 1);
        face(true, 20, 5, 19, 16);
        face(false, 20, 17, 19, 16);
    }

    private static void turnedWithNothingToSpare() {
        // 35 * 35 * 15 * 15 + 3 * 3 * 25 * 25 and 2 * 375 * 375 are the same.
        face(true, 20, 5, 19, 16);
        face(false, 21, 5, 19, 16);
        face(false, 20, 6, 19, 16);
        face(false, 20, 5, 18, 16);
        face(false, 20, 5, 19, 15);
        face(true, 40, 10, 38, 32);
        face(false, 41, 10, 38, 32);
        face(false, 40, 10, 38, 31);
    }

    private static void turnedByALot() {
        face(true, 20, 4, 19, 16);
        face(true, 139, 1, 100, 100);
        face(true, 140, 1, 100, 100);
        face(false, 141, 1, 100, 100);
        face(false, 1000, 1, 100, 100);
    }

    private static void greatNumbers() {
        // 500 times 20 by 5 and 19 by 16: the products are far above the ints.
        passes(true, 10000, 2500, 10000, 9500, 8000);
        passes(false, 10000, 2501, 10000, 9500, 8000);
        passes(false, 10000, 2500, 10000, 9499, 8000);
        passes(false, 10000, 2500, 10000, 9500, 7999);
        passes(true, 10000, 1, 10000, 7072, 7072);
        passes(false, 10000, 1, 10000, 7071, 7071);
        passes(true, 10000, 10000, 10000, 10000, 10000);
        passes(false, 10000, 10000, 10000, 10000, 9999);
        passes(true, 10000, 1, 10000, 10000, 1);
        passes(false, 10000, 1, 10000, 9999, 1);
    }
}
