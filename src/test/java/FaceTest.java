import java.lang.reflect.Constructor;
import java.lang.reflect.Field;
import java.lang.reflect.Method;
import java.lang.reflect.Modifier;
import java.util.HashSet;
import java.util.Set;
import java.util.TreeSet;

/** The face of the class, and promise 1: a new object. */
final class FaceTest {
    private static final String NSE = "java.util.NoSuchElementException";
    private static final String IAE = "java.lang.IllegalArgumentException";
    private static final String ISE = "java.lang.IllegalStateException";

    public static void main(String[] args) {
        face();
        privateNames();
        newObject();
        twoObjects();
        Checks.end();
    }

    private static void face() {
        Set<String> due = new TreeSet<>();
        due.add("public static final int NONE");
        due.add("public PlaceMoves()");
        due.add(method("int place(int,int)", NSE, IAE, ISE));
        due.add(method("int object(int,int,int,int)", IAE, ISE));
        due.add(method("int keys(int,int)", NSE, IAE));
        due.add(method("boolean key(int,boolean)", NSE));
        due.add(method("boolean box(int)", NSE));
        due.add(method("int move(int,int,int,int,int)", NSE, IAE, ISE));
        due.add(method("int into(int,int,int)", NSE, IAE, ISE));
        due.add(method("boolean lost(int,int)", NSE, IAE, ISE));
        due.add(method("int where(int,int)", NSE));
        due.add(method("int last(int)", NSE));
        due.add(method("int history(int,int,int)", NSE, IAE));
        due.add(method("int door(int,int,int,int)", NSE, IAE, ISE));
        due.add(method("boolean passes(int,int)", NSE));
        due.add(method("int way(int,int)", NSE));
        due.add(method("int planned(int,int,int,int)", NSE, IAE, ISE));
        due.add(method("int used(int,int)", NSE));
        due.add(method("void quiet(int,int,int)", NSE, IAE, ISE));
        due.add(method("int count(int)", IAE));
        Checks.same("the face", due.toString(), visible().toString());
        Checks.same("the class", "public final", Modifier.toString(PlaceMoves.class.getModifiers()));
        Checks.same("NONE", -1, PlaceMoves.NONE);
    }

    private static String method(String head, String... thrown) {
        int name = head.indexOf(' ') + 1;
        return "public " + head.substring(0, name) + "PlaceMoves." + head.substring(name)
                + " throws " + String.join(",", thrown);
    }

    private static Set<String> visible() {
        Set<String> found = new TreeSet<>();
        for (Field field : PlaceMoves.class.getDeclaredFields()) {
            if (!Modifier.isPrivate(field.getModifiers())) {
                found.add(field.toString().replace("PlaceMoves.", ""));
            }
        }
        for (Constructor<?> constructor : PlaceMoves.class.getDeclaredConstructors()) {
            found.add(constructor.toString());
        }
        for (Method method : PlaceMoves.class.getDeclaredMethods()) {
            if (!Modifier.isPrivate(method.getModifiers())) {
                found.add(method.toString());
            }
        }
        return found;
    }

    private static void privateNames() {
        Set<String> faceNames = new HashSet<>();
        for (Method method : PlaceMoves.class.getDeclaredMethods()) {
            if (Modifier.isPublic(method.getModifiers())) {
                faceNames.add(method.getName());
            }
        }
        for (Method method : PlaceMoves.class.getDeclaredMethods()) {
            if (!Modifier.isPublic(method.getModifiers()) && faceNames.contains(method.getName())) {
                Checks.same("a private method with a name of the face", "none", method.getName());
            }
        }
    }

    private static void newObject() {
        PlaceMoves x = new PlaceMoves();
        for (int what = 0; what <= 5; what++) {
            Checks.same("count of a new object", 0, x.count(what));
        }
        Checks.noPart(x, "where in a new object", () -> x.where(0, 0));
        Checks.noPart(x, "used in a new object", () -> x.used(0, 0));
        Checks.noPart(x, "passes in a new object", () -> x.passes(0, 0));
        for (int person = 0; person <= 9; person++) {
            int p = person;
            Checks.tells("nobody has a key at first", false, () -> x.key(p, false));
        }
    }

    private static void twoObjects() {
        PlaceMoves x = new PlaceMoves();
        PlaceMoves y = new PlaceMoves();
        x.place(-1, 5);
        x.object(1, 1, 1, 5);
        x.move(0, 0, 7, 0, 0);
        Checks.same("another object's places", 0, y.count(0));
        Checks.same("another object's hour", 0, y.count(4));
    }
}
