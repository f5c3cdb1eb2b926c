import java.util.function.ToIntFunction;

/** 'What it is': for how many calls an object is used. */
final class WhatItIsTest {
    public static void main(String[] args) {
        Heading heading = new Heading("What it is");
        String words = "An object is used for at most 512 calls after it has been made";
        heading.says(words, WhatItIsTest::anyCallMayBeTheLast);
        heading.says(words, WhatItIsTest::refusalAsTheLastCall);
        heading.says(words, WhatItIsTest::allCallsBeforeChangeSomething);
        heading.says(words, WhatItIsTest::refusedCallsBefore);
        Checks.end();
    }

    /** Object 1 is in box 0 at place 0 from hour 6 on; object 2 has its 40 rows. */
    private static Run house() {
        Run x = new Run();
        x.place(-1, 1000);
        x.place(0, 500);
        x.object(9, 8, 7, 100);
        x.object(5, 4, 3, 10);
        x.object(5, 4, 3, 1);
        x.box(0);
        x.key(3, true);
        x.door(0, 1, 4, 3);
        x.move(0, 0, 5, 0, 0);
        x.into(1, 0, 6);
        x.planned(1, 1, 10, 20);
        x.quiet(1, 30, 31);
        for (int n = 0; n < 40; n++) {
            x.move(2, 1, 6, 0, 0);
        }
        return x;
    }

    private static Run after511Calls() {
        Run x = house();
        while (x.calls() < 511) {
            x.count(x.calls() % 6);
        }
        return x;
    }

    private static void last(String call, int due, ToIntFunction<Run> made) {
        Run x = after511Calls();
        Checks.answers(call + " as the 512th call", due, () -> made.applyAsInt(x));
        Checks.same("calls", 512, x.calls());
    }

    private static void anyCallMayBeTheLast() {
        last("place", 2, x -> x.place(1, 7));
        last("object", 3, x -> x.object(1, 1, 1, 1));
        last("keys", 0, x -> x.keys(0, 2));
        last("key", 0, x -> x.key(3, true) ? 1 : 0);
        last("box", 1, x -> x.box(1) ? 1 : 0);
        last("move", 0, x -> x.move(1, 1, 7, 0, 0));
        last("into", 1, x -> x.into(0, 1, 7));
        last("lost", 1, x -> x.lost(0, 7) ? 1 : 0);
        last("where", 0, x -> x.where(1, 6));
        last("last", 0, x -> x.last(1));
        last("history", 1, x -> x.history(1, 0, 1));
        last("door", 1, x -> x.door(0, 1, 9, 9));
        last("passes", 1, x -> x.passes(1, 0) ? 1 : 0);
        last("way", 1, x -> x.way(1, 1));
        last("planned", 0, x -> x.planned(0, 0, 6, 6));
        last("used", 111, x -> x.used(0, 10));
        last("quiet", 0, x -> {
            x.quiet(0, 7, 7);
            return 0;
        });
        last("count", 42, x -> x.count(5));
    }

    private static void refusalAsTheLastCall() {
        Run x = after511Calls();
        Checks.same("no such object", "NoSuchElementException", Checks.outcome(() -> x.where(3, 0)));
        Run y = after511Calls();
        Checks.same("an hour that is gone", "IllegalArgumentException",
                Checks.outcome(() -> y.move(0, 1, 5, 0, 0)));
        Run z = after511Calls();
        Checks.same("40 rows", "IllegalStateException", Checks.outcome(() -> z.move(2, 1, 6, 0, 0)));
    }

    private static void allCallsBeforeChangeSomething() {
        Run x = new Run();
        for (int n = 0; n < 24; n++) {
            x.place(n - 1, 1000000000);
        }
        for (int n = 0; n < 20; n++) {
            x.object(1, 1, 1, 1000000);
        }
        int moves = 0;
        while (x.calls() < 509) {
            x.move(moves % 20, moves % 24, moves, 0, 0);
            moves++;
        }
        Checks.same("rows", moves, x.count(5));
        Checks.same("the weight of the outermost place", 20000000, x.used(0, moves));
        Checks.same("the place of the newest row", (moves - 1) % 24, x.last((moves - 1) % 20));
        Checks.same("calls", 512, x.calls());
    }

    private static void refusedCallsBefore() {
        Run x = house();
        while (x.calls() < 511) {
            Checks.outcome(() -> x.move(2, 1, 6, 0, 0));
        }
        Checks.same("refused calls are calls too, and change nothing", 42, x.count(5));
        Checks.same("calls", 512, x.calls());
    }
}
