/** Promises 13 to 15: door, passes, way. */
final class DoorTest {
    public static void main(String[] args) {
        wrongInputs();
        faces();
        ways();
        waysByDoors();
        longWay();
        Checks.end();
    }

    private static void wrongInputs() {
        PlaceMoves x = new PlaceMoves();
        x.place(-1, 9);
        x.place(-1, 9);
        x.object(1, 1, 1, 1);
        Checks.noPart(x, "place 2 as a", () -> x.door(2, 0, 1, 1));
        Checks.noPart(x, "place 2 as b", () -> x.door(0, 2, 1, 1));
        Checks.noPart(x, "NONE as a", () -> x.door(-1, 0, 1, 1));
        Checks.noPart(x, "NONE as b", () -> x.door(0, -1, 1, 1));
        Checks.noPart(x, "no such place comes before the same", () -> x.door(2, 2, 1, 1));
        Checks.noPart(x, "no such place comes before a size", () -> x.door(0, 2, 0, 1));
        Checks.badArgument(x, "the same", () -> x.door(1, 1, 1, 1));
        Checks.badArgument(x, "w 0", () -> x.door(0, 1, 0, 1));
        Checks.badArgument(x, "h 0", () -> x.door(0, 1, 1, 0));
        Checks.badArgument(x, "w too great", () -> x.door(0, 1, 10001, 1));
        Checks.badArgument(x, "h too great", () -> x.door(0, 1, 1, 10001));
        Checks.noPart(x, "passes no door", () -> x.passes(0, 0));
        for (int n = 0; n < 40; n++) {
            int number = n;
            Checks.answers("door " + n, number, () -> x.door(number % 2, 1 - number % 2, 10000, 10000));
        }
        Checks.badState(x, "the 41st door", () -> x.door(0, 1, 1, 1));
        Checks.badArgument(x, "a size comes before the number of doors", () -> x.door(0, 1, 0, 1));
        Checks.badArgument(x, "the same comes before the number of doors", () -> x.door(0, 0, 1, 1));
        Checks.noPart(x, "passes door 40", () -> x.passes(0, 40));
        Checks.noPart(x, "passes door -1", () -> x.passes(0, -1));
        Checks.noPart(x, "object 1 passes", () -> x.passes(1, 0));
        Checks.noPart(x, "object -1 passes", () -> x.passes(-1, 0));
        Checks.tells("through the last door", true, () -> x.passes(0, 39));
        Checks.noPart(x, "way of object 1", () -> x.way(1, 0));
        Checks.noPart(x, "way of object -1", () -> x.way(-1, 0));
        Checks.noPart(x, "way to place 2", () -> x.way(0, 2));
        Checks.noPart(x, "way to NONE", () -> x.way(0, -1));
    }

    private static void faces() {
        // One face straight: as great as the door, turned by a quarter, and one too great.
        face(true, 20, 10, 1000, 20, 10);
        face(true, 10, 20, 1000, 20, 10);
        face(true, 20, 10, 1000, 10, 20);
        face(false, 20, 11, 1000, 20, 10);
        face(false, 21, 10, 1000, 20, 10);
        // Each of the three faces.
        face(true, 1000, 20, 10, 20, 10);
        face(true, 20, 1000, 10, 20, 10);
        face(false, 1000, 20, 11, 20, 10);
        // Turned askew: 20 by 5 goes through 19 by 16 with nothing to spare.
        face(true, 20, 5, 1000, 19, 16);
        face(true, 1000, 5, 20, 16, 19);
        face(false, 20, 6, 1000, 19, 16);
        face(false, 20, 5, 1000, 19, 15);
        face(false, 21, 5, 1000, 19, 16);
        face(false, 20, 5, 1000, 18, 16);
        // The lesser side is above the lesser of the door: no turning helps, though the long products would let it.
        face(false, 1000, 7, 1000, 1000, 6);
        face(false, 12, 12, 1000, 1000, 11);
        // The greatest numbers, where the products leave the ints.
        face(true, 10000, 1, 10000, 7072, 7072);
        face(false, 10000, 1, 10000, 7071, 7071);
        face(true, 10000, 10000, 10000, 10000, 10000);
        face(false, 10000, 10000, 10000, 10000, 9999);
        face(true, 1, 1, 1, 1, 1);
    }

    private static void face(boolean due, int w, int h, int d, int doorW, int doorH) {
        PlaceMoves x = new PlaceMoves();
        x.place(-1, 9);
        x.place(-1, 9);
        x.object(w, h, d, 1);
        x.door(0, 1, doorW, doorH);
        String call = w + " " + h + " " + d + " through " + doorW + " " + doorH;
        Checks.tells(call, due, () -> x.passes(0, 0));
    }

    private static void ways() {
        PlaceMoves x = new PlaceMoves();
        for (int n = 0; n < 5; n++) {
            x.place(n == 1 ? 0 : -1, 9);
        }
        x.object(5, 5, 5, 1);
        x.object(9, 9, 9, 1);
        x.box(1);
        x.door(0, 2, 6, 6);
        x.door(3, 2, 6, 6);
        Checks.same("nowhere", -1, x.way(0, 0));
        x.move(0, 0, 1, 0, 0);
        Checks.same("where it is", 0, x.way(0, 0));
        Checks.same("one door", 1, x.way(0, 2));
        Checks.same("two doors, one of them backwards", 2, x.way(0, 3));
        Checks.same("a place within is not reached without a door", -1, x.way(0, 1));
        Checks.same("no door at all", -1, x.way(0, 4));
        x.move(1, 3, 2, 0, 0);
        Checks.same("too great for the doors", -1, x.way(1, 2));
        x.into(0, 1, 3);
        Checks.same("out of a box that is too great itself", 1, x.way(0, 2));
        x.move(1, 0, 4, 0, 0);
        Checks.same("from where it is at the present hour", 2, x.way(0, 3));
        x.lost(1, 5);
        Checks.same("lost with its box", -1, x.way(0, 3));
        Checks.same("lost with its box, where it was", -1, x.way(0, 0));
    }

    private static void waysByDoors() {
        PlaceMoves x = new PlaceMoves();
        for (int n = 0; n < 4; n++) {
            x.place(-1, 9);
        }
        x.object(5, 5, 5, 1);
        x.object(3, 3, 3, 1);
        x.door(0, 3, 4, 4);
        x.door(0, 1, 6, 6);
        x.door(1, 2, 6, 6);
        x.door(2, 3, 6, 6);
        x.move(0, 0, 0, 0, 0);
        x.move(1, 0, 0, 0, 0);
        Checks.same("the way round", 3, x.way(0, 3));
        Checks.same("the short way", 1, x.way(1, 3));
        x.door(3, 1, 5, 5);
        Checks.same("a new door", 2, x.way(0, 3));
    }

    private static void longWay() {
        PlaceMoves x = new PlaceMoves();
        for (int n = 0; n < 24; n++) {
            x.place(-1, 9);
        }
        x.object(5, 5, 5, 1);
        for (int n = 23; n > 0; n--) {
            x.door(n, n - 1, 5, 5);
        }
        x.move(0, 0, 0, 0, 0);
        for (int to = 0; to < 24; to++) {
            Checks.same("a chain of doors to " + to, to, x.way(0, to));
        }
        x.move(0, 23, 0, 0, 0);
        Checks.same("the chain from its end", 23, x.way(0, 0));
    }
}
