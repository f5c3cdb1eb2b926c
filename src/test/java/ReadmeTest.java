import java.io.IOException;
import java.lang.reflect.InvocationTargetException;
import java.lang.reflect.Method;
import java.lang.reflect.Modifier;
import java.nio.file.Files;
import java.nio.file.Path;
import java.util.ArrayList;
import java.util.Arrays;
import java.util.HashMap;
import java.util.List;
import java.util.Map;
import java.util.Set;
import java.util.TreeMap;
import java.util.TreeSet;
import java.util.regex.Matcher;
import java.util.regex.Pattern;

/** What README.md tells: the calls of its example, made as they stand there, and the heads of the calls. */
final class ReadmeTest {
    private static final Path README = Path.of("README.md");
    private static final String NEW_OBJECT = "PlaceMoves moves = new PlaceMoves();";
    private static final String NO_ANSWER = "no answer";
    // A name for the answer or none, the call, its arguments, and the answer up to a colon.
    private static final Pattern CALL =
            Pattern.compile("(?:(int|boolean) (\\w+) = )?moves\\.(\\w+)\\(([^()]*)\\); *// ([^:]+)(?:: .+)?");
    private static final Pattern HEAD = Pattern.compile("- `(\\w+) (\\w+)\\(([^()]*)\\)`: ");
    private static final Pattern EXCEPTION = Pattern.compile("`(\\w+Exception)`");

    private final PlaceMoves moves = new PlaceMoves();
    private final Map<String, Object> values = new HashMap<>(Map.of("PlaceMoves.NONE", PlaceMoves.NONE));
    private final Set<String> shown = new TreeSet<>();

    public static void main(String[] args) throws IOException {
        List<String> lines = Files.readAllLines(README);
        new ReadmeTest().example(exampleOf(lines));
        Checks.under("README.md, the calls: ");
        Checks.same("their heads, and what they throw", heads().toString(), toldHeads(lines).toString());
        Checks.end();
    }

    /** The lines of all blocks of Java, but for empty ones: they are one run. */
    private static List<String> exampleOf(List<String> lines) {
        List<String> example = new ArrayList<>();
        boolean inside = false;
        for (String line : lines) {
            if (line.startsWith("```")) {
                inside = line.equals("```java");
            } else if (inside && !line.isBlank()) {
                example.add(line);
            }
        }
        return example;
    }

    private void example(List<String> lines) {
        Checks.under("README.md, the example: ");
        Checks.same("its first line", NEW_OBJECT, lines.isEmpty() ? "none" : lines.get(0));
        for (String line : lines.subList(Math.min(1, lines.size()), lines.size())) {
            Matcher call = CALL.matcher(line);
            if (call.matches()) {
                make(line, call);
            } else {
                Checks.same(line, "a call with its answer", "neither");
            }
        }
        Checks.same("the calls that it shows", faceByName().keySet().toString(), shown.toString());
    }

    private void make(String line, Matcher call) {
        Method method = faceByName().get(call.group(3));
        if (method == null) {
            Checks.same(line, "a call of the face", call.group(3));
            return;
        }
        shown.add(method.getName());
        Object answer = answer(method, call.group(4));
        Checks.same(line, call.group(5).strip(), String.valueOf(answer));
        if (call.group(2) != null) {
            Checks.same(line + " names its answer", call.group(1), method.getReturnType().getName());
            values.put(call.group(2), answer);
        }
    }

    /** The answer, or the simple name of what was thrown. */
    private Object answer(Method method, String arguments) {
        try {
            Object answer = method.invoke(moves, valuesOf(arguments));
            return answer == null ? NO_ANSWER : answer;
        } catch (InvocationTargetException e) {
            return e.getCause().getClass().getSimpleName();
        } catch (IllegalAccessException | IllegalArgumentException e) {
            // Thrown before the call is made, by its arguments: not what the call itself throws.
            return "the call cannot be made: " + e;
        }
    }

    private Object[] valuesOf(String arguments) {
        return Arrays.stream(arguments.split(", ")).map(this::value).toArray();
    }

    private Object value(String argument) {
        if (values.containsKey(argument)) {
            return values.get(argument);
        }
        if (argument.equals("true") || argument.equals("false")) {
            return Boolean.valueOf(argument);
        }
        return Integer.valueOf(argument);
    }

    private static Map<String, Method> faceByName() {
        Map<String, Method> face = new TreeMap<>();
        for (Method method : PlaceMoves.class.getDeclaredMethods()) {
            if (Modifier.isPublic(method.getModifiers())) {
                face.put(method.getName(), method);
            }
        }
        return face;
    }

    private static Set<String> heads() {
        Set<String> heads = new TreeSet<>();
        for (Method method : faceByName().values()) {
            List<String> types = Arrays.stream(method.getParameterTypes()).map(Class::getName).toList();
            List<String> thrown = Arrays.stream(method.getExceptionTypes()).map(Class::getSimpleName).toList();
            heads.add(method.getReturnType().getName() + " " + method.getName() + types + " throws " + thrown);
        }
        return heads;
    }

    /** The same of the list of calls; an entry goes on up to the next one, or to an empty line. */
    private static Set<String> toldHeads(List<String> lines) {
        Set<String> heads = new TreeSet<>();
        for (String entry : String.join("\n", lines).split("\n(?=- )|\n\n")) {
            Matcher head = HEAD.matcher(entry);
            if (head.lookingAt()) {
                List<String> types = Arrays.stream(head.group(3).split(", ")).map(p -> p.split(" ")[0]).toList();
                List<String> thrown = EXCEPTION.matcher(entry).results().map(found -> found.group(1)).toList();
                heads.add(head.group(1) + " " + head.group(2) + types + " throws " + thrown);
            }
        }
        return heads;
    }
}
