/** Promise 15: way. */
final class Promise15Test {
    public static void main(String[] args) {
        Heading promise = new Heading("Promise 15: way");
        promise.says("Through how many doors", Promise15Test::throughNone);
        promise.says("Through how many doors", Promise15Test::throughAsManyAsThereMayBe);
        promise.says("Through how many doors", Promise15Test::bothWays);
        promise.says("each of which the object passes", Promise15Test::doorsThatItPasses);
        promise.says("it goes at least", Promise15Test::theShortestWay);
        promise.says("from where it is at the present hour", Promise15Test::fromThePresentHour);
        promise.says("from where it is at the present hour", Promise15Test::outOfABox);
        promise.says("NONE if there is no such way", Promise15Test::noSuchWay);
        promise.says("or it is nowhere", Promise15Test::nowhere);
        promise.says("NoSuchElementException", Promise15Test::noSuchPart);
        Checks.end();
    }

    /** Places that lie in none, and one object that passes doors of 5 by 5. */
    private static Run places(int n) {
        Run x = new Run();
        for (int i = 0; i < n; i++) {
            x.place(-1, 9);
        }
        x.object(5, 5, 5, 1);
        return x;
    }

    private static void throughNone() {
        Run x = places(2);
        x.move(0, 1, 0, 0, 0);
        Checks.same("where it is, without a door", 0, x.way(0, 1));
        x.door(0, 1, 5, 5);
        Checks.same("where it is, with a door", 0, x.way(0, 1));
        Checks.same("through one", 1, x.way(0, 0));
    }

    private static void throughAsManyAsThereMayBe() {
        Run x = places(24);
        for (int n = 23; n > 0; n--) {
            x.door(n, n - 1, 5, 5);
        }
        x.move(0, 0, 0, 0, 0);
        for (int to = 0; to < 24; to++) {
            Checks.same("a chain of doors to " + to, to, x.way(0, to));
        }
        x.move(0, 23, 0, 0, 0);
        Checks.same("the chain from its end", 23, x.way(0, 0));
        for (int n = 23; n < 39; n++) {
            x.door(0, 1, 1, 1);
        }
        x.door(23, 0, 5, 5);
        Checks.same("through the 40th door", 1, x.way(0, 0));
    }

    private static void bothWays() {
        Run x = places(3);
        x.door(1, 0, 5, 5);
        x.door(1, 2, 5, 5);
        x.move(0, 0, 0, 0, 0);
        Checks.same("one door backwards, one forwards", 2, x.way(0, 2));
        x.move(0, 2, 0, 0, 0);
        Checks.same("and back", 2, x.way(0, 0));
    }

    private static void doorsThatItPasses() {
        Run x = places(4);
        x.object(3, 3, 3, 1);
        x.door(0, 3, 4, 4);
        x.door(0, 1, 5, 5);
        x.door(1, 2, 5, 5);
        x.door(2, 3, 5, 5);
        x.move(0, 0, 0, 0, 0);
        x.move(1, 0, 0, 0, 0);
        Checks.same("the way round, as the short one is too small", 3, x.way(0, 3));
        Checks.same("the short way", 1, x.way(1, 3));
    }

    private static void theShortestWay() {
        Run x = places(4);
        x.door(0, 1, 5, 5);
        x.door(1, 2, 5, 5);
        x.door(2, 3, 5, 5);
        x.move(0, 0, 0, 0, 0);
        Checks.same("three doors", 3, x.way(0, 3));
        x.door(3, 1, 5, 5);
        Checks.same("a new door", 2, x.way(0, 3));
        x.door(0, 3, 5, 5);
        Checks.same("a door between the two", 1, x.way(0, 3));
    }

    private static void fromThePresentHour() {
        Run x = places(3);
        x.door(0, 1, 5, 5);
        x.door(1, 2, 5, 5);
        x.move(0, 0, 1, 0, 0);
        x.move(0, 1, 5, 0, 0);
        Checks.same("not from where it was before", 1, x.way(0, 2));
        x.object(9, 9, 9, 1);
        x.move(1, 0, 9, 0, 0);
        Checks.same("the present hour goes on, and it stays", 1, x.way(0, 2));
    }

    private static void outOfABox() {
        Run x = places(3);
        x.object(9, 9, 9, 1);
        x.box(1);
        x.door(0, 1, 5, 5);
        x.door(1, 2, 5, 5);
        x.move(1, 0, 1, 0, 0);
        x.into(0, 1, 1);
        Checks.same("from where the box is", 2, x.way(0, 2));
        Checks.same("the box itself is too great", -1, x.way(1, 1));
        x.move(1, 1, 2, 0, 0);
        Checks.same("the box was moved", 1, x.way(0, 2));
    }

    private static void noSuchWay() {
        Run x = places(4);
        x.place(0, 9);
        x.door(0, 1, 5, 5);
        x.door(2, 3, 5, 5);
        x.door(1, 3, 5, 4);
        x.move(0, 0, 0, 0, 0);
        Checks.same("no door leads there but one that is too small", -1, x.way(0, 3));
        Checks.same("nor on from there", -1, x.way(0, 2));
        Checks.same("to a place within, without a door", -1, x.way(0, 4));
        x.move(0, 4, 0, 0, 0);
        Checks.same("to the place around, without a door", -1, x.way(0, 0));
    }

    private static void nowhere() {
        Run x = places(2);
        x.object(9, 9, 9, 1);
        x.box(1);
        x.door(0, 1, 9, 9);
        Checks.same("never anywhere", -1, x.way(0, 0));
        x.move(0, 0, 1, 0, 0);
        x.lost(0, 2);
        Checks.same("lost", -1, x.way(0, 0));
        Checks.same("lost, to another place", -1, x.way(0, 1));
        x.into(0, 1, 3);
        Checks.same("in a box that is nowhere", -1, x.way(0, 0));
    }

    private static void noSuchPart() {
        Run x = places(2);
        x.door(0, 1, 9, 9);
        x.move(0, 0, 1, 0, 0);
        Checks.noPartBut(x, "object", 1, object -> x.way(object, 0));
        Checks.noPartBut(x, "place", 2, to -> x.way(0, to));
        x.lost(0, 2);
        Checks.noPartBut(x, "of one nowhere, place", 2, to -> x.way(0, to));
    }
}
