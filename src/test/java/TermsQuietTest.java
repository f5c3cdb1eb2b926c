/** 'Terms': quiet times of a place. */
final class TermsQuietTest {
    public static void main(String[] args) {
        Heading terms = new Heading("Terms");
        String hours = "QUIET times of a place are from an hour to another one (both with it)";
        String bars = "then nothing is moved into it or out of it";
        String lies = "(to or from a place that lies in it, when the other one does not)";
        terms.says(hours, TermsQuietTest::bothHours);
        terms.says(hours, TermsQuietTest::oneHour);
        terms.says(hours, TermsQuietTest::fromTheFirstToTheLastHour);
        terms.says("at most 20 in all", TermsQuietTest::twentyInAll);
        terms.says("at most 20 in all", TermsQuietTest::eachOfTwentyBars);
        terms.says(bars, TermsQuietTest::intoIt);
        terms.says(bars, TermsQuietTest::outOfIt);
        terms.says(bars, TermsQuietTest::inBoxes);
        terms.says(lies, TermsQuietTest::withinIt);
        terms.says(lies, TermsQuietTest::fromAndToPlacesWithin);
        terms.says(lies, TermsQuietTest::outsideOfIt);
        Checks.end();
    }

    /** Place 1 lies in 0, 2 in 1, 3 in 1; 4 lies in none. Object 0 is a box for the others. */
    private static Run house() {
        Run x = new Run();
        for (int into : new int[] {-1, 0, 1, 1, -1}) {
            x.place(into, 1000);
        }
        x.object(9, 9, 9, 1);
        x.object(5, 5, 5, 1);
        x.object(5, 5, 5, 1);
        x.box(0);
        return x;
    }

    private static void bothHours() {
        Run x = house();
        x.quiet(4, 5, 8);
        Checks.answers("one hour before", 0, () -> x.move(0, 4, 4, 0, 0));
        for (int hour = 5; hour <= 8; hour++) {
            int h = hour;
            Checks.answersIdly(x, "move at " + h, 1, () -> x.move(1, 4, h, 0, 0));
            Checks.answersIdly(x, "into at " + h, 4, () -> x.into(1, 0, h));
        }
        Checks.answers("one hour behind", 0, () -> x.move(1, 4, 9, 0, 0));
        Run y = house();
        y.quiet(4, 5, 8);
        y.move(0, 4, 4, 0, 0);
        Checks.answers("into one hour before", 0, () -> y.into(1, 0, 4));
        Checks.answers("into one hour behind", 0, () -> y.into(2, 0, 9));
    }

    private static void oneHour() {
        Run x = house();
        x.quiet(4, 5, 5);
        Checks.answers("one hour before", 0, () -> x.move(0, 4, 4, 0, 0));
        Checks.answersIdly(x, "the hour", 1, () -> x.move(0, 0, 5, 0, 0));
        Checks.answers("one hour behind", 0, () -> x.move(0, 0, 6, 0, 0));
    }

    private static void fromTheFirstToTheLastHour() {
        Run x = house();
        x.quiet(4, 0, 1000000);
        Checks.answersIdly(x, "hour 0", 1, () -> x.move(0, 4, 0, 0, 0));
        Checks.answersIdly(x, "the last hour", 1, () -> x.move(0, 4, 1000000, 0, 0));
        Run y = house();
        y.quiet(4, 1000000, 1000000);
        Checks.answers("one hour before the last", 0, () -> y.move(0, 4, 999999, 0, 0));
        Checks.answersIdly(y, "the last hour alone", 1, () -> y.move(0, 0, 1000000, 0, 0));
    }

    private static void twentyInAll() {
        Run x = house();
        for (int n = 0; n < 20; n++) {
            x.quiet(n % 5, 1 + n, 1 + n);
        }
        for (int place = 0; place < 5; place++) {
            int p = place;
            Checks.badState(x, "the 21st, of place " + p, () -> x.quiet(p, 0, 50));
        }
        Checks.answers("the refused ones do not bar", 0, () -> x.move(0, 4, 0, 0, 0));
        x.move(0, 0, 50, 0, 0);
        Checks.badState(x, "times that are over are quiet times still", () -> x.quiet(0, 60, 60));
    }

    private static void eachOfTwentyBars() {
        for (int n = 0; n < 20; n++) {
            Run x = house();
            for (int time = 0; time < 20; time++) {
                x.quiet(4, 2 * time, 2 * time);
            }
            int hour = 2 * n;
            Checks.answers("at the time " + n, 1, () -> x.move(0, 4, hour, 0, 0));
            Checks.answers("behind the time " + n, 0, () -> x.move(0, 4, hour + 1, 0, 0));
        }
    }

    private static void intoIt() {
        Run x = house();
        x.quiet(1, 5, 5);
        Checks.answersIdly(x, "from nowhere", 1, () -> x.move(1, 1, 5, 0, 0));
        x.move(1, 4, 1, 0, 0);
        Checks.answersIdly(x, "from elsewhere", 1, () -> x.move(1, 1, 5, 0, 0));
        x.move(1, 0, 2, 0, 0);
        Checks.answersIdly(x, "from the place around", 1, () -> x.move(1, 1, 5, 0, 0));
        x.lost(1, 3);
        Checks.answersIdly(x, "from where it was lost", 1, () -> x.move(1, 1, 5, 0, 0));
    }

    private static void outOfIt() {
        Run x = house();
        x.quiet(1, 5, 5);
        x.move(1, 1, 1, 0, 0);
        Checks.answersIdly(x, "to elsewhere", 1, () -> x.move(1, 4, 5, 0, 0));
        Checks.answersIdly(x, "to the place around", 1, () -> x.move(1, 0, 5, 0, 0));
        x.move(0, 4, 1, 0, 0);
        Checks.answersIdly(x, "into a box elsewhere", 4, () -> x.into(1, 0, 5));
        Checks.answers("one hour later", 0, () -> x.into(1, 0, 6));
    }

    private static void inBoxes() {
        Run x = house();
        x.quiet(1, 5, 9);
        x.move(0, 1, 1, 0, 0);
        x.into(1, 0, 1);
        Checks.answersIdly(x, "out of a box, out of the place", 1, () -> x.move(1, 4, 5, 0, 0));
        Checks.answersIdly(x, "the box with it", 1, () -> x.move(0, 4, 5, 0, 0));
        Checks.answersIdly(x, "into the box from nowhere", 4, () -> x.into(2, 0, 5));
        Checks.answers("out of the box, within the place", 0, () -> x.move(1, 1, 5, 0, 0));
        Checks.answers("and into it again", 0, () -> x.into(1, 0, 5));
        Run y = house();
        y.quiet(1, 5, 9);
        y.move(1, 1, 1, 0, 0);
        Checks.answersIdly(y, "into a box that is nowhere", 4, () -> y.into(1, 0, 5));
        Checks.answers("from nowhere into a box that is nowhere", 0, () -> y.into(2, 0, 5));
    }

    private static void withinIt() {
        Run x = house();
        x.quiet(1, 5, 9);
        x.move(1, 1, 1, 0, 0);
        Checks.answers("to the same place", 0, () -> x.move(1, 1, 5, 0, 0));
        Checks.answers("inwards", 0, () -> x.move(1, 2, 5, 0, 0));
        Checks.answers("from one within to another", 0, () -> x.move(1, 3, 6, 0, 0));
        Checks.answers("outwards, but not out", 0, () -> x.move(1, 1, 9, 0, 0));
    }

    private static void fromAndToPlacesWithin() {
        Run x = house();
        x.quiet(0, 5, 9);
        x.move(1, 2, 1, 0, 0);
        x.move(2, 4, 1, 0, 0);
        Checks.answersIdly(x, "from two places in", 1, () -> x.move(1, 4, 5, 0, 0));
        Checks.answersIdly(x, "to two places in", 1, () -> x.move(2, 3, 5, 0, 0));
        Checks.answersIdly(x, "from nowhere to two places in", 1, () -> x.move(0, 3, 5, 0, 0));
        x.quiet(2, 10, 10);
        Checks.answersIdly(x, "from a quiet one to the one beside", 1, () -> x.move(1, 3, 10, 0, 0));
        Checks.answers("the one beside is not quiet", 0, () -> x.move(2, 3, 10, 0, 0));
    }

    private static void outsideOfIt() {
        Run x = house();
        x.quiet(1, 5, 9);
        Checks.answers("from nowhere to the place around", 0, () -> x.move(1, 0, 5, 0, 0));
        Checks.answers("from the place around to elsewhere", 0, () -> x.move(1, 4, 5, 0, 0));
        Checks.answers("and back", 0, () -> x.move(1, 0, 6, 0, 0));
        x.quiet(2, 7, 7);
        x.quiet(3, 7, 7);
        Checks.answers("beside quiet ones", 0, () -> x.move(1, 4, 7, 0, 0));
    }
}
