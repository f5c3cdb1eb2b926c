import java.util.Random;
import java.util.function.IntSupplier;

/** Runs of 512 calls, the same at every start of the test, on PlaceMoves and on the plain model. */
final class RandomRunsTest {
    private static final int RUNS = 600;
    private static final int CALLS = 512;
    private static final int FAR = 100;
    private static final int[] EDGES = {Integer.MIN_VALUE, -2, -1, 0, 1, 2, 3, 9, 10, 19, 20, 23, 24, 39, 40,
            10000, 10001, 1000000, 1000001, 1000000000, 1000000001, Integer.MAX_VALUE};

    private final Random random;
    private final PlaceMoves x = new PlaceMoves();
    private final PlainModel y = new PlainModel();
    private final int run;
    // By run: how many places and objects are wanted, how much the places bear, how far an hour goes.
    private final int manyPlaces;
    private final int manyObjects;
    private final int load;
    private final int stride;

    private RandomRunsTest(int run) {
        this.run = run;
        random = new Random(run);
        manyPlaces = 1 + random.nextInt(24);
        manyObjects = 1 + random.nextInt(20);
        load = 20 + random.nextInt(200);
        stride = 1 + random.nextInt(8);
    }

    public static void main(String[] args) {
        for (int run = 0; run < RUNS; run++) {
            RandomRunsTest test = new RandomRunsTest(run);
            for (int call = 0; call < CALLS; call++) {
                test.call();
            }
        }
        Checks.end();
    }

    private void call() {
        if (random.nextInt(60) == 0) {
            wildCall(random.nextInt(18));
        } else if (y.count(0) < manyPlaces && random.nextInt(3) == 0) {
            int into = random.nextInt(y.count(0) + 1) - 1;
            int bears = load / (into < 0 ? 1 : 2) + random.nextInt(load);
            both("place " + into + " " + bears, () -> x.place(into, bears), () -> y.place(into, bears));
        } else if (y.count(1) < manyObjects && random.nextInt(3) == 0) {
            // The later, the smaller: so that boxes in boxes come about.
            int most = 30 - y.count(1);
            int w = 1 + random.nextInt(most);
            int h = 1 + random.nextInt(most);
            int d = 1 + random.nextInt(most);
            int grams = 1 + random.nextInt(40);
            both("object", () -> x.object(w, h, d, grams), () -> y.object(w, h, d, grams));
        } else if (random.nextInt(2) == 0) {
            change(random.nextInt(24));
        } else {
            ask(random.nextInt(7));
        }
    }

    private void change(int kind) {
        int object = someObject();
        int place = somePlace();
        int hour = someHour();
        int a = random.nextInt(10);
        int b = random.nextInt(10);
        if (kind < 9) {
            both("move " + object + " " + place + " " + hour,
                    () -> x.move(object, place, hour, a, b), () -> y.move(object, place, hour, a, b));
        } else if (kind < 14) {
            int box = Math.min(someObject(), someObject());
            both("into " + object + " " + box + " " + hour,
                    () -> x.into(object, box, hour), () -> y.into(object, box, hour));
        } else if (kind < 16) {
            both("lost " + object + " " + hour,
                    () -> x.lost(object, hour) ? 1 : 0, () -> y.lost(object, hour) ? 1 : 0);
        } else if (kind < 18) {
            int from = y.count(4) + random.nextInt(8);
            int to = from + random.nextInt(12) - 1;
            both("planned " + object + " " + place + " " + from + " " + to,
                    () -> x.planned(object, place, from, to), () -> y.planned(object, place, from, to));
        } else {
            changeSeldom(kind, object, place, hour);
        }
    }

    private void changeSeldom(int kind, int object, int place, int hour) {
        int n = random.nextInt(3);
        if (kind == 18) {
            both("keys " + object, () -> x.keys(object, n), () -> y.keys(object, n));
        } else if (kind == 19) {
            int person = random.nextInt(10);
            both("key " + person, () -> x.key(person, n > 0) ? 1 : 0, () -> y.key(person, n > 0) ? 1 : 0);
        } else if (kind < 22) {
            both("box " + object, () -> x.box(object) ? 1 : 0, () -> y.box(object) ? 1 : 0);
        } else if (kind == 22) {
            both("quiet " + place + " " + hour,
                    () -> quiet(place, hour, hour + n), () -> plainQuiet(place, hour, hour + n));
        } else {
            int other = somePlace();
            int w = 1 + random.nextInt(25);
            int h = 1 + random.nextInt(25);
            both("door " + place + " " + other, () -> x.door(place, other, w, h), () -> y.door(place, other, w, h));
        }
    }

    private void ask(int kind) {
        int object = someObject();
        int place = somePlace();
        int hour = random.nextInt(y.count(4) + 12) - 1;
        int k = random.nextInt(random.nextInt(8) == 0 ? 42 : 6) - 1;
        int what = random.nextInt(7) - 1;
        if (kind == 0) {
            both("where " + object + " " + hour, () -> x.where(object, hour), () -> y.where(object, hour));
        } else if (kind == 1) {
            both("last " + object, () -> x.last(object), () -> y.last(object));
        } else if (kind == 2) {
            both("history " + object + " " + k, () -> x.history(object, k, what), () -> y.history(object, k, what));
        } else if (kind == 3) {
            both("passes " + object + " " + k,
                    () -> x.passes(object, k) ? 1 : 0, () -> y.passes(object, k) ? 1 : 0);
        } else if (kind == 4) {
            both("way " + object + " " + place, () -> x.way(object, place), () -> y.way(object, place));
        } else if (kind == 5) {
            both("used " + place + " " + hour, () -> x.used(place, hour), () -> y.used(place, hour));
        } else {
            both("count " + what, () -> x.count(what), () -> y.count(what));
        }
    }

    /** A call with inputs near and beyond all edges; no hour far ahead is among them. */
    private void wildCall(int kind) {
        int a = edge();
        int b = edge();
        int c = edge();
        int d = edge();
        int e = edge();
        switch (kind) {
            case 0 -> both("place", () -> x.place(a, b), () -> y.place(a, b));
            case 1 -> both("object", () -> x.object(a, b, c, d), () -> y.object(a, b, c, d));
            case 2 -> both("keys", () -> x.keys(a, b), () -> y.keys(a, b));
            case 3 -> both("key", () -> x.key(a, b > 5) ? 1 : 0, () -> y.key(a, b > 5) ? 1 : 0);
            case 4 -> both("box", () -> x.box(a) ? 1 : 0, () -> y.box(a) ? 1 : 0);
            case 5 -> both("move", () -> x.move(a, b, near(c), d, e), () -> y.move(a, b, near(c), d, e));
            case 6 -> both("into", () -> x.into(a, b, near(c)), () -> y.into(a, b, near(c)));
            case 7 -> both("lost", () -> x.lost(a, near(b)) ? 1 : 0, () -> y.lost(a, near(b)) ? 1 : 0);
            case 8 -> both("where", () -> x.where(a, b), () -> y.where(a, b));
            case 9 -> both("last", () -> x.last(a), () -> y.last(a));
            case 10 -> both("history", () -> x.history(a, b, c), () -> y.history(a, b, c));
            case 11 -> both("door", () -> x.door(a, b, c, d), () -> y.door(a, b, c, d));
            case 12 -> both("passes", () -> x.passes(a, b) ? 1 : 0, () -> y.passes(a, b) ? 1 : 0);
            case 13 -> both("way", () -> x.way(a, b), () -> y.way(a, b));
            case 14 -> both("planned",
                    () -> x.planned(a, b, near(c), near(d)), () -> y.planned(a, b, near(c), near(d)));
            case 15 -> both("used", () -> x.used(a, b), () -> y.used(a, b));
            case 16 -> both("quiet", () -> quiet(a, b, c), () -> plainQuiet(a, b, c));
            default -> both("count", () -> x.count(a), () -> y.count(a));
        }
    }

    private int quiet(int place, int from, int to) {
        x.quiet(place, from, to);
        return 0;
    }

    private int plainQuiet(int place, int from, int to) {
        y.quiet(place, from, to);
        return 0;
    }

    private int edge() {
        return EDGES[random.nextInt(EDGES.length)];
    }

    /** The hour itself, but one that is refused for a far one, which the plain model would take too long to reach. */
    private static int near(int hour) {
        return hour > FAR && hour <= 1000000 ? 1000001 : hour;
    }

    private int someObject() {
        return random.nextInt(40) == 0 ? y.count(1) : random.nextInt(Math.max(1, y.count(1)));
    }

    private int somePlace() {
        return random.nextInt(40) == 0 ? y.count(0) : random.nextInt(Math.max(1, y.count(0)));
    }

    private int someHour() {
        int ahead = random.nextInt(8) == 0 ? random.nextInt(stride + 1) : 0;
        int gone = random.nextInt(50) == 0 ? 1 : 0;
        return y.count(4) + ahead - gone;
    }

    private void both(String call, IntSupplier mine, IntSupplier plain) {
        Checks.same("run " + run + " " + call, Checks.outcome(plain), Checks.outcome(mine));
    }
}
