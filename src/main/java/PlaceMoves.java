import java.util.NoSuchElementException;

/**
 * Places within places, and objects that are moved between them hour by hour.
 * The numbered promises that it keeps stand in the document DOC.md.
 */
public final class PlaceMoves {
    public static final int NONE = -1;

    private static final int MAX_PLACES = 24;
    private static final int MAX_OBJECTS = 20;
    private static final int MAX_PERSONS = 10;
    private static final int MAX_ROWS = 40;
    private static final int MAX_DOORS = 40;
    private static final int MAX_PLANS = 30;
    private static final int MAX_QUIET_TIMES = 20;

    private static final int MAX_HOUR = 1000000;
    private static final int MAX_LOAD = 1000000000;
    private static final int MAX_SIZE = 10000;
    private static final int MAX_GRAMS = 1000000;
    private static final int MAX_KEYS = 2;

    private static final int AT_PLACE = 0;
    private static final int IN_BOX = 1;
    private static final int IS_LOST = 2;

    private final Places places = new Places();
    private final Things things = new Things();
    private final Rows rows = new Rows();
    private final Doors doors = new Doors();
    private final Plans plans = new Plans();
    private final QuietTimes quietTimes = new QuietTimes();
    private final boolean[] hasKey = new boolean[MAX_PERSONS];
    // Filled anew for each hour that is weighed; kept so that no call makes an array.
    private final int[] burdened = new int[MAX_OBJECTS];
    private int present = 0;

    public PlaceMoves() {
    }

    public int place(int into, int load)
            throws NoSuchElementException, IllegalArgumentException, IllegalStateException {
        if (into != NONE) {
            needPlace(into);
        }
        needRange(load, 1, MAX_LOAD);
        needRoom(places.size, MAX_PLACES);
        return places.add(into, load);
    }

    public int object(int w, int h, int d, int grams)
            throws IllegalArgumentException, IllegalStateException {
        needRange(w, 1, MAX_SIZE);
        needRange(h, 1, MAX_SIZE);
        needRange(d, 1, MAX_SIZE);
        needRange(grams, 1, MAX_GRAMS);
        needRoom(things.size, MAX_OBJECTS);
        return things.add(w, h, d, grams);
    }

    public int keys(int object, int n) throws NoSuchElementException, IllegalArgumentException {
        needObject(object);
        needRange(n, 0, MAX_KEYS);
        int before = things.keysNeeded[object];
        things.keysNeeded[object] = n;
        return before;
    }

    public boolean key(int person, boolean has) throws NoSuchElementException {
        needPerson(person);
        boolean changed = hasKey[person] != has;
        hasKey[person] = has;
        return changed;
    }

    public boolean box(int object) throws NoSuchElementException {
        needObject(object);
        boolean changed = !things.isBox[object];
        things.isBox[object] = true;
        return changed;
    }

    public int move(int object, int place, int hour, int a, int b)
            throws NoSuchElementException, IllegalArgumentException, IllegalStateException {
        needObject(object);
        needPlace(place);
        needPerson(a);
        needPerson(b);
        needRange(hour, present, MAX_HOUR);
        needRoom(rows.size[object], MAX_ROWS);
        needKeysOf(object, a, b);
        if (isBarred(placeAt(object, hour), place, hour)) {
            return 1;
        }
        return comesByRow(object, hour, AT_PLACE, place) ? 0 : 2;
    }

    public int into(int object, int box, int hour)
            throws NoSuchElementException, IllegalArgumentException, IllegalStateException {
        needObject(object);
        needObject(box);
        needRange(hour, present, MAX_HOUR);
        needRoom(rows.size[object], MAX_ROWS);
        if (!things.isBox[box] || box == object || isWithin(box, object, hour)) {
            return 1;
        }
        if (!things.isSmaller(object, box)) {
            return 2;
        }
        if (things.keysNeeded[object] > 0) {
            return 3;
        }
        if (isBarred(placeAt(object, hour), placeAt(box, hour), hour)) {
            return 4;
        }
        return comesByRow(object, hour, IN_BOX, box) ? 0 : 5;
    }

    public boolean lost(int object, int hour)
            throws NoSuchElementException, IllegalArgumentException, IllegalStateException {
        needObject(object);
        needRange(hour, present, MAX_HOUR);
        needRoom(rows.size[object], MAX_ROWS);
        int row = rows.held(object, present);
        if (row == NONE || rows.kind[row] != AT_PLACE) {
            return false;
        }
        return comesByRow(object, hour, IS_LOST, NONE);
    }

    public int where(int object, int hour) throws NoSuchElementException {
        needObject(object);
        return placeAt(object, hour);
    }

    public int last(int object) throws NoSuchElementException {
        needObject(object);
        int hour = present;
        for (int step = 0; step <= MAX_OBJECTS * MAX_ROWS && hour >= 0; step++) {
            int place = placeAt(object, hour);
            if (place != NONE) {
                return place;
            }
            hour = standsSince(object, hour) - 1;
        }
        return NONE;
    }

    public int history(int object, int k, int what) throws NoSuchElementException, IllegalArgumentException {
        needObject(object);
        needKnown(k, rows.size[object]);
        needRange(what, 0, 2);
        int row = Rows.index(object, k);
        if (what == 0) {
            return rows.hour[row];
        }
        return what == 1 ? rows.kind[row] : rows.target[row];
    }

    public int door(int a, int b, int w, int h)
            throws NoSuchElementException, IllegalArgumentException, IllegalStateException {
        needPlace(a);
        needPlace(b);
        if (a == b) {
            throw new IllegalArgumentException("a door joins two places");
        }
        needRange(w, 1, MAX_SIZE);
        needRange(h, 1, MAX_SIZE);
        needRoom(doors.size, MAX_DOORS);
        return doors.add(a, b, w, h);
    }

    public boolean passes(int object, int door) throws NoSuchElementException {
        needObject(object);
        needKnown(door, doors.size);
        return fits(object, door);
    }

    public int way(int object, int to) throws NoSuchElementException {
        needObject(object);
        needPlace(to);
        int from = placeAt(object, present);
        return from == NONE ? NONE : doorsBetween(from, to, fittingDoors(object));
    }

    public int planned(int object, int place, int from, int to)
            throws NoSuchElementException, IllegalArgumentException, IllegalStateException {
        needObject(object);
        needPlace(place);
        needRange(from, present, MAX_HOUR);
        needRange(to, from, MAX_HOUR);
        needRoom(plans.size, MAX_PLANS);
        plans.add(object, place, from, to);
        if (loadsHold(place, from, to)) {
            return 0;
        }
        plans.dropNewest();
        return 1;
    }

    public int used(int place, int hour) throws NoSuchElementException {
        needPlace(place);
        weighAt(hour);
        return weightOf(place);
    }

    public void quiet(int place, int from, int to)
            throws NoSuchElementException, IllegalArgumentException, IllegalStateException {
        needPlace(place);
        if (from < 0 || to < from) {
            throw new IllegalArgumentException("a quiet time begins at 0 or later and ends no sooner than that");
        }
        needRoom(quietTimes.size, MAX_QUIET_TIMES);
        quietTimes.add(place, from, to);
    }

    public int count(int what) throws IllegalArgumentException {
        switch (what) {
            case 0:
                return places.size;
            case 1:
                return things.size;
            case 2:
                return doors.size;
            case 3:
                return plans.size;
            case 4:
                return present;
            case 5:
                return rows.total;
            default:
                throw new IllegalArgumentException("nothing of this number is counted");
        }
    }

    private void needPlace(int place) {
        needKnown(place, places.size);
    }

    private void needObject(int object) {
        needKnown(object, things.size);
    }

    private void needPerson(int person) {
        needKnown(person, MAX_PERSONS);
    }

    private static void needKnown(int number, int size) {
        if (number < 0 || number >= size) {
            throw new NoSuchElementException("there is none of this number");
        }
    }

    private static void needRange(int value, int least, int greatest) {
        if (value < least || value > greatest) {
            throw new IllegalArgumentException("a value is out of its range");
        }
    }

    private static void needRoom(int size, int limit) {
        if (size >= limit) {
            throw new IllegalStateException("there are as many as there may be");
        }
    }

    private void needKeysOf(int object, int a, int b) {
        int needed = things.keysNeeded[object];
        boolean enough = needed == 0
                || needed == 1 && hasKey[a]
                || needed == 2 && hasKey[a] && hasKey[b] && a != b;
        if (!enough) {
            throw new IllegalStateException("a key is missing");
        }
    }

    /** The place where an object is at an hour, be it in boxes or not; NONE if it is nowhere. */
    private int placeAt(int object, int hour) {
        int holder = object;
        for (int step = 0; step < MAX_OBJECTS; step++) {
            int row = rows.held(holder, hour);
            if (row == NONE || rows.kind[row] == IS_LOST) {
                return NONE;
            }
            if (rows.kind[row] == AT_PLACE) {
                return rows.target[row];
            }
            holder = rows.target[row];
        }
        return NONE;
    }

    /**
     * The hour of the newest of the rows that tell where an object is at an hour: from it on to that hour the
     * answer is one and the same. NONE if the object has no row then.
     */
    private int standsSince(int object, int hour) {
        int since = NONE;
        int holder = object;
        for (int step = 0; step < MAX_OBJECTS; step++) {
            int row = rows.held(holder, hour);
            if (row == NONE) {
                return since;
            }
            since = Math.max(since, rows.hour[row]);
            if (rows.kind[row] != IN_BOX) {
                return since;
            }
            holder = rows.target[row];
        }
        return since;
    }

    /** Whether an object lies in a box at an hour, over any other boxes, wherever that box may be. */
    private boolean isWithin(int object, int box, int hour) {
        int holder = object;
        for (int step = 0; step < MAX_OBJECTS; step++) {
            int row = rows.held(holder, hour);
            if (row == NONE || rows.kind[row] != IN_BOX) {
                return false;
            }
            holder = rows.target[row];
            if (holder == box) {
                return true;
            }
        }
        return false;
    }

    /** Whether a quiet time bars the step from one place to another at an hour; each may be NONE. */
    private boolean isBarred(int from, int to, int hour) {
        for (int i = 0; i < quietTimes.size; i++) {
            int place = quietTimes.place[i];
            if (quietTimes.covers(i, hour) && places.liesIn(from, place) != places.liesIn(to, place)) {
                return true;
            }
        }
        return false;
    }

    /** Gives an object a row, and takes that back if a load would be passed: whether the row stays. */
    private boolean comesByRow(int object, int hour, int kind, int target) {
        rows.add(object, hour, kind, target);
        int place = placeAt(object, hour);
        // Before this hour the row changes nothing, and what stands there was weighed when it came about.
        if (place != NONE && !loadsHold(place, hour, MAX_HOUR)) {
            rows.dropNewest(object);
            return false;
        }
        present = hour;
        return true;
    }

    /** Whether a place, and all in which it lies, bear their weights at every hour of a time from the present on. */
    private boolean loadsHold(int place, int from, int to) {
        if (!loadsHoldAt(place, from)) {
            return false;
        }
        // No row lies behind the present hour, so later on a weight grows only where a plan begins.
        for (int i = 0; i < plans.size; i++) {
            int start = plans.from[i];
            if (start > from && start <= to && !loadsHoldAt(place, start)) {
                return false;
            }
        }
        return true;
    }

    private boolean loadsHoldAt(int place, int hour) {
        weighAt(hour);
        for (int outer = 0; outer < places.size; outer++) {
            if (places.liesIn(place, outer) && weightOf(outer) > places.load[outer]) {
                return false;
            }
        }
        return true;
    }

    /** Notes for each object, as bits, the places to whose weight it adds at an hour. */
    private void weighAt(int hour) {
        for (int object = 0; object < things.size; object++) {
            burdened[object] = places.around(placeAt(object, hour));
        }
        for (int i = 0; i < plans.size; i++) {
            if (plans.covers(i, hour)) {
                burdened[plans.object[i]] |= places.around(plans.place[i]);
            }
        }
    }

    /** The weight of a place at the hour that was weighed last. */
    private int weightOf(int place) {
        int sum = 0;
        for (int object = 0; object < things.size; object++) {
            if ((burdened[object] >>> place & 1) == 1) {
                sum += things.grams[object];
            }
        }
        return sum;
    }

    private boolean fits(int object, int door) {
        int least = things.least[object];
        int middle = things.middle[object];
        int greatest = things.greatest[object];
        return doors.letsThrough(door, middle, least)
                || doors.letsThrough(door, greatest, least)
                || doors.letsThrough(door, greatest, middle);
    }

    /** The doors, as bits, that an object passes. */
    private long fittingDoors(int object) {
        long fitting = 0;
        for (int door = 0; door < doors.size; door++) {
            if (fits(object, door)) {
                fitting |= 1L << door;
            }
        }
        return fitting;
    }

    /** Through how many of the open doors, set as bits, one goes at least between two places; NONE if no way leads. */
    private int doorsBetween(int from, int to, long open) {
        int reached = 1 << from;
        for (int steps = 0; steps < MAX_PLACES; steps++) {
            if ((reached >>> to & 1) == 1) {
                return steps;
            }
            int wider = doors.spread(reached, open);
            if (wider == reached) {
                return NONE;
            }
            reached = wider;
        }
        return NONE;
    }

    /** The places, each with its load and all the places around it. */
    private static final class Places {
        private final int[] load = new int[MAX_PLACES];
        // As bits: the place itself and all in which it lies. 24 places leave room in an int.
        private final int[] around = new int[MAX_PLACES];
        private int size = 0;

        int add(int outer, int grams) {
            int number = size;
            load[number] = grams;
            around[number] = around(outer) | 1 << number;
            size = number + 1;
            return number;
        }

        /** As bits, a place and all in which it lies; no bit for NONE. */
        int around(int place) {
            return place < 0 || place >= size ? 0 : around[place];
        }

        /** Whether a place is another one or lies in it, over any others; NONE lies in no place. */
        boolean liesIn(int place, int outer) {
            return (around(place) >>> outer & 1) == 1;
        }
    }

    /** The objects, but for where they are. */
    private static final class Things {
        private final int[] least = new int[MAX_OBJECTS];
        private final int[] middle = new int[MAX_OBJECTS];
        private final int[] greatest = new int[MAX_OBJECTS];
        private final int[] grams = new int[MAX_OBJECTS];
        private final int[] keysNeeded = new int[MAX_OBJECTS];
        private final boolean[] isBox = new boolean[MAX_OBJECTS];
        private int size = 0;

        int add(int w, int h, int d, int weight) {
            int number = size;
            least[number] = Math.min(w, Math.min(h, d));
            greatest[number] = Math.max(w, Math.max(h, d));
            middle[number] = w + h + d - least[number] - greatest[number];
            grams[number] = weight;
            size = number + 1;
            return number;
        }

        boolean isSmaller(int object, int other) {
            return least[object] < least[other]
                    && middle[object] < middle[other]
                    && greatest[object] < greatest[other];
        }
    }

    /** The rows of all objects, those of one object behind one another, by hour. */
    private static final class Rows {
        private final int[] size = new int[MAX_OBJECTS];
        private final int[] hour = new int[MAX_OBJECTS * MAX_ROWS];
        private final int[] kind = new int[MAX_OBJECTS * MAX_ROWS];
        // The place or the box, by kind; NONE if lost.
        private final int[] target = new int[MAX_OBJECTS * MAX_ROWS];
        private int total = 0;

        static int index(int object, int k) {
            return object * MAX_ROWS + k;
        }

        void add(int object, int atHour, int ofKind, int to) {
            int row = index(object, size[object]);
            hour[row] = atHour;
            kind[row] = ofKind;
            target[row] = to;
            size[object]++;
            total++;
        }

        void dropNewest(int object) {
            size[object]--;
            total--;
        }

        /** The index of the row that holds for an object at an hour; NONE if it has none then. */
        int held(int object, int atHour) {
            for (int k = size[object] - 1; k >= 0; k--) {
                int row = index(object, k);
                if (hour[row] <= atHour) {
                    return row;
                }
            }
            return NONE;
        }
    }

    /** The doors, each open both ways. */
    private static final class Doors {
        private final int[] one = new int[MAX_DOORS];
        private final int[] other = new int[MAX_DOORS];
        private final int[] wide = new int[MAX_DOORS];
        private final int[] narrow = new int[MAX_DOORS];
        private int size = 0;

        int add(int a, int b, int w, int h) {
            int number = size;
            one[number] = a;
            other[number] = b;
            wide[number] = Math.max(w, h);
            narrow[number] = Math.min(w, h);
            size = number + 1;
            return number;
        }

        /** Whether a face of p by q, p not below q, goes through a door, straight or turned. */
        boolean letsThrough(int door, int p, int q) {
            if (q > narrow[door]) {
                return false;
            }
            return p <= wide[door] || goesTurned(wide[door], narrow[door], p, q);
        }

        // In longs: the products go up to some 8 * 10^16.
        private static boolean goesTurned(long w, long h, long p, long q) {
            long sums = (w + h) * (p - q);
            long differences = (w - h) * (p + q);
            long squares = p * p - q * q;
            return sums * sums + differences * differences >= 2 * squares * squares;
        }

        /** The places, as bits, that are reached from others through at most one of the open doors. */
        int spread(int reached, long open) {
            int wider = reached;
            for (int door = 0; door < size; door++) {
                int ends = 1 << one[door] | 1 << other[door];
                if ((open >>> door & 1) == 1 && (reached & ends) != 0) {
                    wider |= ends;
                }
            }
            return wider;
        }
    }

    /** The plans that hold room. */
    private static final class Plans {
        private final int[] object = new int[MAX_PLANS];
        private final int[] place = new int[MAX_PLANS];
        private final int[] from = new int[MAX_PLANS];
        private final int[] to = new int[MAX_PLANS];
        private int size = 0;

        void add(int ofObject, int atPlace, int start, int end) {
            object[size] = ofObject;
            place[size] = atPlace;
            from[size] = start;
            to[size] = end;
            size++;
        }

        void dropNewest() {
            size--;
        }

        boolean covers(int plan, int hour) {
            return from[plan] <= hour && hour <= to[plan];
        }
    }

    /** The times at which nothing goes into a place or out of it. */
    private static final class QuietTimes {
        private final int[] place = new int[MAX_QUIET_TIMES];
        private final int[] from = new int[MAX_QUIET_TIMES];
        private final int[] to = new int[MAX_QUIET_TIMES];
        private int size = 0;

        void add(int ofPlace, int start, int end) {
            place[size] = ofPlace;
            from[size] = start;
            to[size] = end;
            size++;
        }

        boolean covers(int time, int hour) {
            return from[time] <= hour && hour <= to[time];
        }
    }
}
