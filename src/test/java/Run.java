import java.util.ArrayList;
import java.util.List;
import java.util.function.ToIntFunction;

/** A run of calls on a new object, that notes them so that they can be made anew on another one. */
final class Run {
    static final int NO_CALL = -1;
    /** An object is promised for no more: so no test may ask more of one. */
    static final int MOST_CALLS = 512;

    private final PlaceMoves moves = new PlaceMoves();
    private final List<ToIntFunction<PlaceMoves>> calls = new ArrayList<>();

    int calls() {
        return calls.size();
    }

    /** A new object with all the calls of this run but one. */
    PlaceMoves anew(int leftOut) {
        PlaceMoves other = new PlaceMoves();
        for (int n = 0; n < calls.size(); n++) {
            ToIntFunction<PlaceMoves> call = calls.get(n);
            if (n != leftOut) {
                Checks.outcome(() -> call.applyAsInt(other));
            }
        }
        return other;
    }

    private int call(ToIntFunction<PlaceMoves> call) {
        if (calls.size() == MOST_CALLS) {
            throw new UnsupportedOperationException("the test makes more calls than an object is promised for");
        }
        calls.add(call);
        return call.applyAsInt(moves);
    }

    int place(int into, int load) {
        return call(m -> m.place(into, load));
    }

    int object(int w, int h, int d, int grams) {
        return call(m -> m.object(w, h, d, grams));
    }

    int keys(int object, int n) {
        return call(m -> m.keys(object, n));
    }

    boolean key(int person, boolean has) {
        return call(m -> m.key(person, has) ? 1 : 0) == 1;
    }

    boolean box(int object) {
        return call(m -> m.box(object) ? 1 : 0) == 1;
    }

    int move(int object, int place, int hour, int a, int b) {
        return call(m -> m.move(object, place, hour, a, b));
    }

    int into(int object, int box, int hour) {
        return call(m -> m.into(object, box, hour));
    }

    boolean lost(int object, int hour) {
        return call(m -> m.lost(object, hour) ? 1 : 0) == 1;
    }

    int where(int object, int hour) {
        return call(m -> m.where(object, hour));
    }

    int last(int object) {
        return call(m -> m.last(object));
    }

    int history(int object, int k, int what) {
        return call(m -> m.history(object, k, what));
    }

    int door(int a, int b, int w, int h) {
        return call(m -> m.door(a, b, w, h));
    }

    boolean passes(int object, int door) {
        return call(m -> m.passes(object, door) ? 1 : 0) == 1;
    }

    int way(int object, int to) {
        return call(m -> m.way(object, to));
    }

    int planned(int object, int place, int from, int to) {
        return call(m -> m.planned(object, place, from, to));
    }

    int used(int place, int hour) {
        return call(m -> m.used(place, hour));
    }

    void quiet(int place, int from, int to) {
        call(m -> {
            m.quiet(place, from, to);
            return 0;
        });
    }

    int count(int what) {
        return call(m -> m.count(what));
    }
}
