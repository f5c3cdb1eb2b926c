import java.util.function.BooleanSupplier;
import java.util.function.IntSupplier;

/** Calls of all kinds after a run: two objects that answer them alike differ in nothing that can be seen. */
final class LaterCalls {
    private static final int KINDS = 9;
    private static final int LAST_HOUR = 1000000;
    private static final int NEAR_HOURS = 12;

    private final PlaceMoves x;
    private final StringBuilder told = new StringBuilder();
    private int left;
    private final int places;
    private final int objects;
    private final int doors;
    private final int present;

    private LaterCalls(PlaceMoves x, int left) {
        this.x = x;
        this.left = left;
        places = count(0);
        objects = count(1);
        doors = count(2);
        present = count(4);
    }

    /** What later calls tell if one call of a run is left out; each kind of them is asked of a new object. */
    static String answers(Run run, int leftOut) {
        StringBuilder all = new StringBuilder();
        for (int kind = 0; kind < KINDS; kind++) {
            LaterCalls later = new LaterCalls(run.anew(leftOut), Run.MOST_CALLS - run.calls());
            later.make(kind);
            all.append(later.told).append('|');
        }
        return all.toString();
    }

    private void make(int kind) {
        switch (kind) {
            case 0 -> seeRows();
            case 1 -> seeWeights();
            case 2 -> seeDoors();
            case 3 -> seeKeysAndBoxes();
            case 4 -> fill();
            case 5 -> move();
            case 6 -> putIntoBoxes();
            case 7 -> plan();
            default -> lose();
        }
    }

    /** Makes one call, if the object is promised for one more: whether it gave an answer. */
    private boolean ask(IntSupplier call) {
        if (left == 0) {
            return false;
        }
        left--;
        String answer = Checks.outcome(call);
        told.append(answer).append(' ');
        return answer.matches("-?[0-9]+");
    }

    private void askWhether(BooleanSupplier call) {
        ask(() -> call.getAsBoolean() ? 1 : 0);
    }

    private int count(int what) {
        int[] number = {0};
        ask(() -> number[0] = x.count(what));
        return number[0];
    }

    private void seeRows() {
        ask(() -> x.count(3));
        ask(() -> x.count(5));
        for (int o = 0; o < objects; o++) {
            int object = o;
            ask(() -> x.last(object));
            ask(() -> x.where(object, present));
            ask(() -> x.where(object, LAST_HOUR));
            seeRowsOf(object);
        }
    }

    private void seeRowsOf(int object) {
        for (int k = 0; k <= 40; k++) {
            int row = k;
            if (!ask(() -> x.history(object, row, 0))) {
                return;
            }
            ask(() -> x.history(object, row, 1));
            ask(() -> x.history(object, row, 2));
        }
    }

    private void seeWeights() {
        for (int p = 0; p < places; p++) {
            int place = p;
            for (int hour = 0; hour <= NEAR_HOURS; hour++) {
                int then = present + hour;
                ask(() -> x.used(place, then));
            }
            ask(() -> x.used(place, 0));
            ask(() -> x.used(place, LAST_HOUR));
        }
    }

    private void seeDoors() {
        for (int o = 0; o < objects; o++) {
            int object = o;
            for (int p = 0; p < places; p++) {
                int place = p;
                ask(() -> x.way(object, place));
            }
            for (int d = 0; d < doors; d++) {
                int door = d;
                askWhether(() -> x.passes(object, door));
            }
        }
    }

    private void seeKeysAndBoxes() {
        for (int p = 0; p < 10; p++) {
            int person = p;
            askWhether(() -> x.key(person, true));
        }
        for (int o = 0; o < objects; o++) {
            int object = o;
            ask(() -> x.keys(object, 1));
            askWhether(() -> x.box(object));
        }
    }

    private void fill() {
        for (int n = places; n <= 24; n++) {
            ask(() -> x.place(-1, 5));
        }
        for (int n = objects; n <= 20; n++) {
            ask(() -> x.object(3, 2, 1, 1));
        }
        for (int n = doors; n <= 40; n++) {
            ask(() -> x.door(0, 1, 5, 5));
        }
        for (int n = 0; n <= 30; n++) {
            ask(() -> x.planned(19, 23, LAST_HOUR, LAST_HOUR));
        }
        for (int n = 0; n <= 20; n++) {
            ask(() -> {
                x.quiet(23, LAST_HOUR, LAST_HOUR);
                return 0;
            });
        }
    }

    private void freeOfKeys() {
        for (int o = 0; o < objects; o++) {
            int object = o;
            ask(() -> x.keys(object, 0));
        }
    }

    private void move() {
        freeOfKeys();
        for (int hour = 0; hour <= NEAR_HOURS; hour++) {
            int then = present + hour;
            for (int o = 0; o < Math.min(4, objects); o++) {
                int object = o;
                for (int p = 0; p < Math.min(6, places); p++) {
                    int place = p;
                    ask(() -> x.move(object, place, then, 0, 0));
                }
            }
        }
    }

    private void putIntoBoxes() {
        freeOfKeys();
        for (int o = 0; o < objects; o++) {
            int object = o;
            for (int b = 0; b < objects; b++) {
                int box = b;
                ask(() -> x.into(object, box, present));
            }
        }
    }

    private void plan() {
        for (int o = 0; o < objects; o++) {
            int object = o;
            for (int p = 0; p < places; p++) {
                int place = p;
                ask(() -> x.planned(object, place, present, LAST_HOUR));
            }
        }
    }

    private void lose() {
        for (int o = 0; o < objects; o++) {
            int object = o;
            askWhether(() -> x.lost(object, present));
            ask(() -> x.last(object));
        }
        askWhether(() -> x.lost(0, LAST_HOUR));
        ask(() -> x.count(4));
    }
}
