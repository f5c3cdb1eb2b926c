import java.util.NoSuchElementException;
import java.util.function.BooleanSupplier;
import java.util.function.IntSupplier;

/** Counts the calls whose answer is not the one that is due, and prints them. */
final class Checks {
    private static int wrong = 0;

    private Checks() {
    }

    static void same(String what, long due, long got) {
        if (due != got) {
            report(what, String.valueOf(due), String.valueOf(got));
        }
    }

    static void same(String what, String due, String got) {
        if (!due.equals(got)) {
            report(what, due, got);
        }
    }

    static void answers(String call, int due, IntSupplier run) {
        same(call, String.valueOf(due), outcome(run));
    }

    static void tells(String call, boolean due, BooleanSupplier run) {
        answers(call, due ? 1 : 0, () -> run.getAsBoolean() ? 1 : 0);
    }

    /** That a call throws just this exception and that nothing that can be seen of the object changes. */
    static void refuses(PlaceMoves x, Class<? extends RuntimeException> due, String call, Runnable run) {
        String before = seen(x);
        String got = outcome(() -> {
            run.run();
            return 0;
        });
        same(call, due.getSimpleName(), got);
        same(call + " changes nothing", before, seen(x));
    }

    /** That a call answers this and that nothing that can be seen of the object changes. */
    static void answersIdly(PlaceMoves x, String call, int due, IntSupplier run) {
        String before = seen(x);
        answers(call, due, run);
        same(call + " changes nothing", before, seen(x));
    }

    static void noPart(PlaceMoves x, String call, Runnable run) {
        refuses(x, NoSuchElementException.class, call, run);
    }

    static void badArgument(PlaceMoves x, String call, Runnable run) {
        refuses(x, IllegalArgumentException.class, call, run);
    }

    static void badState(PlaceMoves x, String call, Runnable run) {
        refuses(x, IllegalStateException.class, call, run);
    }

    /** The answer as a text, or the simple name of what was thrown. */
    static String outcome(IntSupplier run) {
        try {
            return String.valueOf(run.getAsInt());
        } catch (RuntimeException e) {
            return e.getClass().getSimpleName();
        }
    }

    /** All that the face tells of an object without changing it. */
    static String seen(PlaceMoves x) {
        StringBuilder text = new StringBuilder();
        for (int what = 0; what <= 5; what++) {
            text.append(x.count(what)).append(' ');
        }
        for (int o = 0; o < x.count(1); o++) {
            text.append("| ").append(x.last(o)).append(' ');
            seenRows(x, o, text);
            for (int door = 0; door < x.count(2); door++) {
                text.append(x.passes(o, door) ? '+' : '-');
            }
            for (int to = 0; to < x.count(0); to++) {
                text.append(' ').append(x.way(o, to));
            }
        }
        for (int p = 0; p < x.count(0); p++) {
            for (int hour = 0; hour <= 40; hour++) {
                text.append(' ').append(x.used(p, hour));
            }
        }
        return text.toString();
    }

    private static void seenRows(PlaceMoves x, int object, StringBuilder text) {
        for (int k = 0; k < 40; k++) {
            int row = k;
            if (outcome(() -> x.history(object, row, 0)).equals("NoSuchElementException")) {
                return;
            }
            for (int what = 0; what <= 2; what++) {
                text.append(x.history(object, k, what)).append(' ');
            }
        }
    }

    static void end() {
        if (wrong != 0) {
            System.out.println(wrong + " answers are not as due");
            System.exit(1);
        }
    }

    private static void report(String what, String due, String got) {
        wrong++;
        System.out.println(what + ": due " + due + ", got " + got);
    }
}
