/** Promise 5: key. */
final class Promise05Test {
    public static void main(String[] args) {
        Heading promise = new Heading("Promise 5: key");
        promise.says("A person has a key, or not: whether that was not so.", Promise05Test::whetherThatWasNotSo);
        promise.says("A person has a key, or not: whether that was not so.", Promise05Test::eachPerson);
        promise.says("NoSuchElementException", Promise05Test::noSuchPerson);
        Checks.end();
    }

    private static void whetherThatWasNotSo() {
        Run x = new Run();
        Checks.tellsIdly(x, "none, as before", false, () -> x.key(4, false));
        Checks.tells("one now", true, () -> x.key(4, true));
        Checks.tellsIdly(x, "one, as before", false, () -> x.key(4, true));
        Checks.tells("none now", true, () -> x.key(4, false));
        Checks.tellsIdly(x, "none again, as before", false, () -> x.key(4, false));
    }

    private static void eachPerson() {
        Run x = new Run();
        for (int p = 0; p < 10; p += 3) {
            x.key(p, true);
        }
        for (int p = 0; p < 10; p++) {
            int person = p;
            Checks.tells("person " + p, person % 3 != 0, () -> x.key(person, true));
        }
    }

    private static void noSuchPerson() {
        Run x = new Run();
        x.key(0, true);
        x.key(9, true);
        Checks.noPartBut(x, "a key for", 10, person -> x.key(person, true));
        Checks.noPartBut(x, "no key for", 10, person -> x.key(person, false));
        Checks.tells("the first person has it still", false, () -> x.key(0, true));
        Checks.tells("the last person has it still", false, () -> x.key(9, true));
    }
}
