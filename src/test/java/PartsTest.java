/** Promises 2 to 6: place, object, keys, key, box; and 19: count. */
final class PartsTest {
    public static void main(String[] args) {
        places();
        objects();
        keys();
        persons();
        boxes();
        counts();
        Checks.end();
    }

    private static void places() {
        PlaceMoves x = new PlaceMoves();
        Checks.noPart(x, "place in one that is not there", () -> x.place(0, 1));
        Checks.noPart(x, "place in -2", () -> x.place(-2, 1));
        Checks.noPart(x, "no such place comes before the load", () -> x.place(0, 0));
        Checks.badArgument(x, "load 0", () -> x.place(-1, 0));
        Checks.badArgument(x, "load below 0", () -> x.place(-1, Integer.MIN_VALUE));
        Checks.badArgument(x, "load too great", () -> x.place(-1, 1000000001));
        Checks.answers("the least load", 0, () -> x.place(-1, 1));
        Checks.answers("the greatest load", 1, () -> x.place(0, 1000000000));
        Checks.noPart(x, "a place in itself", () -> x.place(2, 1));
        for (int n = 2; n < 24; n++) {
            int into = n - 1;
            Checks.answers("the next place", n, () -> x.place(into, 100));
        }
        Checks.badState(x, "the 25th place", () -> x.place(-1, 1));
        Checks.badArgument(x, "the load comes before the number of places", () -> x.place(-1, 0));
        Checks.noPart(x, "no such place comes before all", () -> x.place(24, 0));
    }

    private static void objects() {
        PlaceMoves x = new PlaceMoves();
        Checks.badArgument(x, "w 0", () -> x.object(0, 1, 1, 1));
        Checks.badArgument(x, "h 0", () -> x.object(1, 0, 1, 1));
        Checks.badArgument(x, "d 0", () -> x.object(1, 1, 0, 1));
        Checks.badArgument(x, "grams 0", () -> x.object(1, 1, 1, 0));
        Checks.badArgument(x, "w too great", () -> x.object(10001, 1, 1, 1));
        Checks.badArgument(x, "h too great", () -> x.object(1, 10001, 1, 1));
        Checks.badArgument(x, "d too great", () -> x.object(1, 1, 10001, 1));
        Checks.badArgument(x, "grams too great", () -> x.object(1, 1, 1, 1000001));
        Checks.answers("the greatest object", 0, () -> x.object(10000, 10000, 10000, 1000000));
        for (int n = 1; n < 20; n++) {
            Checks.answers("the next object", n, () -> x.object(1, 1, 1, 1));
            Checks.same("it is nowhere", -1, x.where(n, 0));
            Checks.same("it was never anywhere", -1, x.last(n));
        }
        Checks.badState(x, "the 21st object", () -> x.object(1, 1, 1, 1));
        Checks.badArgument(x, "a size comes before the number of objects", () -> x.object(0, 1, 1, 1));
    }

    private static void keys() {
        PlaceMoves x = new PlaceMoves();
        x.object(1, 1, 1, 1);
        Checks.noPart(x, "keys of no object", () -> x.keys(1, 1));
        Checks.noPart(x, "keys of object -1", () -> x.keys(-1, 1));
        Checks.noPart(x, "no such object comes before n", () -> x.keys(1, 3));
        Checks.badArgument(x, "3 keys", () -> x.keys(0, 3));
        Checks.badArgument(x, "-1 keys", () -> x.keys(0, -1));
        Checks.answers("no keys at first", 0, () -> x.keys(0, 2));
        Checks.answers("keys as set", 2, () -> x.keys(0, 1));
        Checks.badArgument(x, "3 keys again", () -> x.keys(0, 3));
        Checks.answers("keys as set before the wrong call", 1, () -> x.keys(0, 0));
        Checks.answers("keys as set to 0", 0, () -> x.keys(0, 0));
    }

    private static void persons() {
        PlaceMoves x = new PlaceMoves();
        Checks.noPart(x, "person 10", () -> x.key(10, true));
        Checks.noPart(x, "person -1", () -> x.key(-1, true));
        for (int person : new int[] {0, 9}) {
            Checks.tells("a first key", true, () -> x.key(person, true));
            Checks.tells("a key again", false, () -> x.key(person, true));
            Checks.tells("a key taken", true, () -> x.key(person, false));
            Checks.tells("a key taken again", false, () -> x.key(person, false));
        }
        x.key(3, true);
        Checks.tells("another person's key", false, () -> x.key(4, false));
    }

    private static void boxes() {
        PlaceMoves x = new PlaceMoves();
        x.object(1, 1, 1, 1);
        x.object(9, 9, 9, 1);
        Checks.noPart(x, "box of no object", () -> x.box(2));
        Checks.noPart(x, "box of object -1", () -> x.box(-1));
        Checks.answers("no box yet", 1, () -> x.into(0, 1, 0));
        Checks.tells("it becomes a box", true, () -> x.box(1));
        Checks.tells("it is one", false, () -> x.box(1));
        Checks.answers("a box now", 0, () -> x.into(0, 1, 0));
        Checks.tells("the other is none yet", true, () -> x.box(0));
    }

    private static void counts() {
        PlaceMoves x = new PlaceMoves();
        x.place(-1, 100);
        x.place(-1, 100);
        x.place(1, 100);
        x.object(2, 2, 2, 7);
        x.object(1, 1, 1, 7);
        x.door(0, 1, 5, 5);
        x.box(0);
        x.planned(0, 0, 3, 4);
        x.planned(0, 0, 3, 4);
        x.planned(1, 2, 3, 4);
        x.planned(1, 2, 3, 4);
        x.move(0, 0, 11, 0, 0);
        x.into(1, 0, 12);
        x.move(1, 2, 12, 0, 0);
        x.lost(1, 13);
        x.move(1, 2, 13, 0, 0);
        int[] due = {3, 2, 1, 4, 13, 5};
        for (int what = 0; what < due.length; what++) {
            Checks.same("count " + what, due[what], x.count(what));
        }
        Checks.badArgument(x, "count 6", () -> x.count(6));
        Checks.badArgument(x, "count -1", () -> x.count(-1));
    }
}
