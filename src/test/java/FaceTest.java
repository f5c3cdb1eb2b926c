import java.lang.reflect.Constructor;
import java.lang.reflect.Field;
import java.lang.reflect.Method;
import java.lang.reflect.Modifier;
import java.util.HashSet;
import java.util.Set;
import java.util.TreeSet;

/** The face of the class. */
final class FaceTest {
    private static final String NSE = "java.util.NoSuchElementException";
    private static final String IAE = "java.lang.IllegalArgumentException";
    private static final String ISE = "java.lang.IllegalStateException";

    public static void main(String[] args) {
        face();
        privateNames();
        Checks.end();
    }

    private static void face() {
        Set<String> due = new TreeSet<>();
        due.add("public static final int NONE");
        due.add("public PlaceMoves()");
        due.add(method("int place(int,int)", NSE, IAE, ISE));
        due.add(method("int object(int,int,int,int)", IAE, ISE));
        due.add(method("int keys(int,int)", NSE, IAE));
        due.add(method("boolean key(int,boolean)", NSE));
        due.add(method("boolean box(int)", NSE));
        due.add(method("int move(int,int,int,int,int)", NSE, IAE, ISE));
        due.add(method("int into(int,int,int)", NSE, IAE, ISE));
        due.add(method("boolean lost(int,int)", NSE, IAE, ISE));
        due.add(method("int where(int,int)", NSE));
        due.add(method("int last(int)", NSE));
        due.add(method("int history(int,int,int)", NSE, IAE));
        due.add(method("int door(int,int,int,int)", NSE, IAE, ISE));
        due.add(method("boolean passes(int,int)", NSE));
        due.add(method("int way(int,int)", NSE));
        due.add(method("int planned(int,int,int,int)", NSE, IAE, ISE));
        due.add(method("int used(int,int)", NSE));
        due.add(method("void quiet(int,int,int)", NSE, IAE, ISE));
        due.add(method("int count(int)", IAE));
        Checks.same("the face", due.toString(), visible().toString());
        Checks.same("the class", "public final", Modifier.toString(PlaceMoves.class.getModifiers()));
        Checks.same("NONE", -1, PlaceMoves.NONE);
    }

    private static String method(String head, String... thrown) {
        int name = head.indexOf(' ') + 1;
        return "public " + head.substring(0, name) + "PlaceMoves." + head.substring(name)
                + " throws " + String.join(",", thrown);
    }

    private static Set<String> visible() {
        Set<String> found = new TreeSet<>();
        for (Field field : PlaceMoves.class.getDeclaredFields()) {
            if (!Modifier.isPrivate(field.getModifiers())) {
                found.add(field.toString().replace("PlaceMoves.", ""));
            }
        }
        for (Constructor<?> constructor : PlaceMoves.class.getDeclaredConstructors()) {
            found.add(constructor.toString());
        }
        for (Method method : PlaceMoves.class.getDeclaredMethods()) {
            if (!Modifier.isPrivate(method.getModifiers())) {
                found.add(method.toString());
            }
        }
        return found;
    }

    private static void privateNames() {
        Set<String> faceNames = new HashSet<>();
        for (Method method : PlaceMoves.class.getDeclaredMethods()) {
            if (Modifier.isPublic(method.getModifiers())) {
                faceNames.add(method.getName());
            }
        }
        for (Method method : PlaceMoves.class.getDeclaredMethods()) {
            if (!Modifier.isPublic(method.getModifiers()) && faceNames.contains(method.getName())) {
                Checks.same("a private method with a name of the face", "none", method.getName());
            }
        }
    }
}
