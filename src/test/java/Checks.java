import java.util.NoSuchElementException;
import java.util.function.BooleanSupplier;
import java.util.function.IntConsumer;
import java.util.function.IntSupplier;

/** Counts the calls whose answer is not the one that is due, and prints them. */
final class Checks {
    private static int wrong = 0;
    private static String under = "";

    private Checks() {
    }

    /** What is printed before all that is wrong from now on. */
    static void under(String words) {
        under = words;
    }

    static void same(String what, long due, long got) {
        if (due != got) {
            report(what, String.valueOf(due), String.valueOf(got));
        }
    }

    static void same(String what, String due, String got) {
        if (!due.equals(got)) {
            report(what, due, got);
        }
    }

    static void answers(String call, int due, IntSupplier run) {
        same(call, String.valueOf(due), outcome(run));
    }

    static void tells(String call, boolean due, BooleanSupplier run) {
        answers(call, due ? 1 : 0, () -> run.getAsBoolean() ? 1 : 0);
    }

    /** That a call throws just this exception and that it changes nothing, as later calls show. */
    static void refuses(Run x, Class<? extends RuntimeException> due, String call, Runnable run) {
        int number = x.calls();
        String got = outcome(() -> {
            run.run();
            return 0;
        });
        same(call, due.getSimpleName(), got);
        changedNothing(x, call, number);
    }

    /** That a call answers this and that it changes nothing, as later calls show. */
    static void answersIdly(Run x, String call, int due, IntSupplier run) {
        int number = x.calls();
        answers(call, due, run);
        changedNothing(x, call, number);
    }

    static void tellsIdly(Run x, String call, boolean due, BooleanSupplier run) {
        answersIdly(x, call, due ? 1 : 0, () -> run.getAsBoolean() ? 1 : 0);
    }

    private static void changedNothing(Run x, String call, int number) {
        same(call + " is one call of the run", number + 1, x.calls());
        same(call + " changes nothing", LaterCalls.answers(x, number), LaterCalls.answers(x, Run.NO_CALL));
    }

    static void noPart(Run x, String call, Runnable run) {
        refuses(x, NoSuchElementException.class, call, run);
    }

    static void badArgument(Run x, String call, Runnable run) {
        refuses(x, IllegalArgumentException.class, call, run);
    }

    static void badState(Run x, String call, Runnable run) {
        refuses(x, IllegalStateException.class, call, run);
    }

    /** That there is no part of a number below 0, nor of the first one beyond, nor of one far off. */
    static void noPartBut(Run x, String call, int beyond, IntConsumer run) {
        for (int number : new int[] {-1, beyond, -2, beyond + 1, Integer.MIN_VALUE, Integer.MAX_VALUE}) {
            noPart(x, call + " " + number, () -> run.accept(number));
        }
    }

    /** That a value is refused that is out of its range by one, or far out of it. */
    static void onlyWithin(Run x, String call, int least, int greatest, IntConsumer run) {
        for (int value : new int[] {least - 1, greatest + 1, Integer.MIN_VALUE, Integer.MAX_VALUE}) {
            badArgument(x, call + " " + value, () -> run.accept(value));
        }
    }

    /** The answer as a text, or the simple name of what was thrown. */
    static String outcome(IntSupplier run) {
        try {
            return String.valueOf(run.getAsInt());
        } catch (RuntimeException e) {
            return e.getClass().getSimpleName();
        }
    }

    static void end() {
        if (wrong != 0) {
            System.out.println(wrong + " answers are not as due");
            System.exit(1);
        }
    }

    private static void report(String what, String due, String got) {
        wrong++;
        System.out.println(under + what + ": due " + due + ", got " + got);
    }
}
