/** Promise 14: passes. Which faces pass is tested under the terms. */
final class Promise14Test {
    public static void main(String[] args) {
        Heading promise = new Heading("Promise 14: passes");
        promise.says("Whether an object passes a door.", Promise14Test::eachObjectAndDoor);
        promise.says("Whether an object passes a door.", Promise14Test::whereverItIs);
        promise.says("NoSuchElementException", Promise14Test::noSuchObject);
        promise.says("NoSuchElementException", Promise14Test::noSuchDoor);
        Checks.end();
    }

    private static Run house() {
        Run x = new Run();
        x.place(-1, 9);
        x.place(-1, 9);
        x.object(30, 20, 10, 1);
        x.object(7, 6, 5, 1);
        x.door(0, 1, 6, 5);
        x.door(0, 1, 20, 10);
        x.door(0, 1, 5, 5);
        return x;
    }

    private static void eachObjectAndDoor() {
        Run x = house();
        boolean[][] due = {{false, true, false}, {true, true, false}};
        for (int object = 0; object < 2; object++) {
            for (int door = 0; door < 3; door++) {
                Checks.same("object " + object + " door " + door, due[object][door] ? 1 : 0,
                        x.passes(object, door) ? 1 : 0);
            }
        }
    }

    private static void whereverItIs() {
        Run x = house();
        Checks.tellsIdly(x, "nowhere", true, () -> x.passes(1, 0));
        x.move(1, 1, 1, 0, 0);
        Checks.tellsIdly(x, "somewhere", true, () -> x.passes(1, 0));
        x.box(0);
        x.into(1, 0, 1);
        Checks.tellsIdly(x, "in a box that does not pass", true, () -> x.passes(1, 0));
    }

    private static void noSuchObject() {
        Run x = house();
        Checks.noPartBut(x, "object", 2, object -> x.passes(object, 0));
    }

    private static void noSuchDoor() {
        Run x = new Run();
        x.place(-1, 9);
        x.place(-1, 9);
        x.object(1, 1, 1, 1);
        Checks.noPartBut(x, "of none, door", 0, door -> x.passes(0, door));
        x.door(0, 1, 5, 5);
        Checks.noPartBut(x, "of one, door", 1, door -> x.passes(0, door));
        for (int n = 1; n < 40; n++) {
            x.door(0, 1, 5, 5);
        }
        Checks.noPartBut(x, "of 40, door", 40, door -> x.passes(0, door));
        Checks.tells("the last one", true, () -> x.passes(0, 39));
    }
}
