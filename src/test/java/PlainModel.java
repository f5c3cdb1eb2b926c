import java.math.BigInteger;
import java.util.ArrayList;
import java.util.Arrays;
import java.util.HashSet;
import java.util.List;
import java.util.NoSuchElementException;
import java.util.Set;

/**
 * The document once more, word by word and hour by hour, with no care for speed: hours that lie far from one another
 * make it slow.
 */
final class PlainModel {
    record Place(int into, int load) { }

    record Row(int hour, int kind, int target) { }

    record Door(int a, int b, int w, int h) { }

    record Plan(int object, int place, int from, int to) { }

    record Quiet(int place, int from, int to) { }

    static final class Thing {
        int[] sizes;
        int grams;
        int keys;
        boolean box;
        List<Row> rows = new ArrayList<>();
    }

    private final List<Place> places = new ArrayList<>();
    private final List<Thing> things = new ArrayList<>();
    private final List<Door> doors = new ArrayList<>();
    private final List<Plan> plans = new ArrayList<>();
    private final List<Quiet> quiets = new ArrayList<>();
    private final Set<Integer> keyHolders = new HashSet<>();
    private int present = 0;

    int place(int into, int load) {
        none(into != -1 && (into < 0 || into >= places.size()));
        argument(load < 1 || load > 1000000000);
        state(places.size() == 24);
        places.add(new Place(into, load));
        return places.size() - 1;
    }

    int object(int w, int h, int d, int grams) {
        for (int size : new int[] {w, h, d}) {
            argument(size < 1 || size > 10000);
        }
        argument(grams < 1 || grams > 1000000);
        state(things.size() == 20);
        Thing thing = new Thing();
        thing.sizes = new int[] {w, h, d};
        Arrays.sort(thing.sizes);
        thing.grams = grams;
        things.add(thing);
        return things.size() - 1;
    }

    int keys(int object, int n) {
        Thing thing = thing(object);
        argument(n < 0 || n > 2);
        int before = thing.keys;
        thing.keys = n;
        return before;
    }

    boolean key(int person, boolean has) {
        none(person < 0 || person > 9);
        return has ? keyHolders.add(person) : keyHolders.remove(person);
    }

    boolean box(int object) {
        Thing thing = thing(object);
        boolean was = thing.box;
        thing.box = true;
        return !was;
    }

    int move(int object, int place, int hour, int a, int b) {
        Thing thing = thing(object);
        place(place);
        none(a < 0 || a > 9 || b < 0 || b > 9);
        argument(hour < present || hour > 1000000);
        state(thing.rows.size() == 40);
        state(thing.keys == 1 && !keyHolders.contains(a));
        state(thing.keys == 2 && (a == b || !keyHolders.contains(a) || !keyHolders.contains(b)));
        if (barred(where(object, present), place, hour)) {
            return 1;
        }
        return mayCome(thing, new Row(hour, 0, place), place) ? 0 : 2;
    }

    int into(int object, int box, int hour) {
        Thing thing = thing(object);
        Thing holder = thing(box);
        argument(hour < present || hour > 1000000);
        state(thing.rows.size() == 40);
        if (!holder.box || box == object || held(box).contains(object)) {
            return 1;
        }
        for (int i = 0; i < 3; i++) {
            if (thing.sizes[i] >= holder.sizes[i]) {
                return 2;
            }
        }
        if (thing.keys != 0) {
            return 3;
        }
        int place = where(box, present);
        if (barred(where(object, present), place, hour)) {
            return 4;
        }
        return mayCome(thing, new Row(hour, 1, box), place) ? 0 : 5;
    }

    boolean lost(int object, int hour) {
        Thing thing = thing(object);
        argument(hour < present || hour > 1000000);
        state(thing.rows.size() == 40);
        if (where(object, present) == -1 || !held(object).isEmpty()) {
            return false;
        }
        thing.rows.add(new Row(hour, 2, -1));
        present = hour;
        return true;
    }

    int where(int object, int hour) {
        Row row = row(thing(object), hour);
        if (row == null || row.kind == 2) {
            return -1;
        }
        return row.kind == 0 ? row.target : where(row.target, hour);
    }

    int last(int object) {
        thing(object);
        for (int hour = present; hour >= 0; hour--) {
            if (where(object, hour) != -1) {
                return where(object, hour);
            }
        }
        return -1;
    }

    int history(int object, int k, int what) {
        Thing thing = thing(object);
        none(k < 0 || k >= thing.rows.size());
        argument(what < 0 || what > 2);
        Row row = thing.rows.get(k);
        return new int[] {row.hour, row.kind, row.target}[what];
    }

    int door(int a, int b, int w, int h) {
        place(a);
        place(b);
        argument(a == b || w < 1 || w > 10000 || h < 1 || h > 10000);
        state(doors.size() == 40);
        doors.add(new Door(a, b, w, h));
        return doors.size() - 1;
    }

    boolean passes(int object, int door) {
        Thing thing = thing(object);
        none(door < 0 || door >= doors.size());
        Door d = doors.get(door);
        for (int left = 0; left < 3; left++) {
            if (face(thing.sizes[(left + 1) % 3], thing.sizes[(left + 2) % 3], d.w, d.h)) {
                return true;
            }
        }
        return false;
    }

    int way(int object, int to) {
        thing(object);
        place(to);
        int from = where(object, present);
        Set<Integer> seen = new HashSet<>();
        List<Integer> front = new ArrayList<>();
        if (from != -1) {
            front.add(from);
        }
        for (int n = 0; !front.isEmpty(); n++) {
            if (front.contains(to)) {
                return n;
            }
            seen.addAll(front);
            List<Integer> next = new ArrayList<>();
            for (int i = 0; i < doors.size(); i++) {
                Door d = doors.get(i);
                if (passes(object, i)) {
                    step(front, seen, next, d.a, d.b);
                    step(front, seen, next, d.b, d.a);
                }
            }
            front = next;
        }
        return -1;
    }

    int planned(int object, int place, int from, int to) {
        thing(object);
        place(place);
        argument(from < present || to < from || to > 1000000);
        state(plans.size() == 30);
        plans.add(new Plan(object, place, from, to));
        for (int hour = from; hour <= to; hour++) {
            if (overloaded(place, hour)) {
                plans.remove(plans.size() - 1);
                return 1;
            }
        }
        return 0;
    }

    int used(int place, int hour) {
        place(place);
        int sum = 0;
        for (int o = 0; o < things.size(); o++) {
            boolean counts = liesIn(where(o, hour), place);
            for (Plan plan : plans) {
                counts |= plan.object == o && plan.from <= hour && hour <= plan.to && liesIn(plan.place, place);
            }
            sum += counts ? things.get(o).grams : 0;
        }
        return sum;
    }

    void quiet(int place, int from, int to) {
        place(place);
        argument(from < 0 || to < from);
        state(quiets.size() == 20);
        quiets.add(new Quiet(place, from, to));
    }

    int count(int what) {
        argument(what < 0 || what > 5);
        int rows = 0;
        for (Thing thing : things) {
            rows += thing.rows.size();
        }
        return new int[] {places.size(), things.size(), doors.size(), plans.size(), present, rows}[what];
    }

    private static void step(List<Integer> front, Set<Integer> seen, List<Integer> next, int from, int to) {
        if (front.contains(from) && !seen.contains(to)) {
            next.add(to);
        }
    }

    /** Tries a row: whether it stays. A place of -1: it comes to no place. */
    private boolean mayCome(Thing thing, Row row, int place) {
        thing.rows.add(row);
        int end = row.hour;
        for (Plan plan : plans) {
            end = Math.max(end, plan.to);
        }
        for (int hour = present; place != -1 && hour <= end; hour++) {
            if (overloaded(place, hour)) {
                thing.rows.remove(thing.rows.size() - 1);
                return false;
            }
        }
        present = row.hour;
        return true;
    }

    private boolean overloaded(int place, int hour) {
        for (int p = place; p != -1; p = places.get(p).into) {
            if (used(p, hour) > places.get(p).load) {
                return true;
            }
        }
        return false;
    }

    private boolean barred(int from, int to, int hour) {
        for (Quiet quiet : quiets) {
            boolean then = quiet.from <= hour && hour <= quiet.to;
            if (then && liesIn(from, quiet.place) && !liesIn(to, quiet.place)) {
                return true;
            }
            if (then && liesIn(to, quiet.place) && !liesIn(from, quiet.place)) {
                return true;
            }
        }
        return false;
    }

    private boolean liesIn(int place, int outer) {
        return place != -1 && (place == outer || liesIn(places.get(place).into, outer));
    }

    /** All boxes in which an object is at the present hour. */
    private Set<Integer> held(int object) {
        Set<Integer> boxes = new HashSet<>();
        Row row = row(things.get(object), present);
        while (row != null && row.kind == 1) {
            boxes.add(row.target);
            row = row(things.get(row.target), present);
        }
        return boxes;
    }

    private static Row row(Thing thing, int hour) {
        Row found = null;
        for (Row row : thing.rows) {
            if (row.hour <= hour) {
                found = row;
            }
        }
        return found;
    }

    private static boolean face(int s, int t, int doorW, int doorH) {
        BigInteger p = BigInteger.valueOf(Math.max(s, t));
        BigInteger q = BigInteger.valueOf(Math.min(s, t));
        BigInteger w = BigInteger.valueOf(Math.max(doorW, doorH));
        BigInteger h = BigInteger.valueOf(Math.min(doorW, doorH));
        if (p.compareTo(w) <= 0 && q.compareTo(h) <= 0) {
            return true;
        }
        BigInteger left = w.add(h).pow(2).multiply(p.subtract(q).pow(2))
                .add(w.subtract(h).pow(2).multiply(p.add(q).pow(2)));
        BigInteger right = p.pow(2).subtract(q.pow(2)).pow(2).multiply(BigInteger.TWO);
        return q.compareTo(h) <= 0 && left.compareTo(right) >= 0;
    }

    private Thing thing(int object) {
        none(object < 0 || object >= things.size());
        return things.get(object);
    }

    private void place(int place) {
        none(place < 0 || place >= places.size());
    }

    private static void none(boolean missing) {
        if (missing) {
            throw new NoSuchElementException();
        }
    }

    private static void argument(boolean wrong) {
        if (wrong) {
            throw new IllegalArgumentException();
        }
    }

    private static void state(boolean wrong) {
        if (wrong) {
            throw new IllegalStateException();
        }
    }
}
