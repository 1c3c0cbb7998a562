import java.io.IOException;
import java.lang.reflect.InvocationTargetException;
import java.lang.reflect.Method;
import java.lang.reflect.Modifier;
import java.nio.file.Files;
import java.nio.file.Path;
import java.util.List;
import java.util.Map;
import java.util.Set;
import java.util.TreeSet;
import java.util.regex.Matcher;
import java.util.regex.Pattern;

/** Runs what README.md shows as calls: each answers what stands behind it, and each call of the class is shown. */
final class ReadmeAnswers {
    private static final Pattern NEW_OBJECT = Pattern.compile("AnyNail x = new AnyNail\\(\\);");
    private static final Pattern CALL = Pattern.compile("x\\.(\\w+)\\(([^;]*)\\); +// (-?\\d+|[A-Z]+)(:.*)?");
    private static final Map<String, Long> CONSTANTS = Map.of("NONE", (long) AnyNail.NONE, "BAD", (long) AnyNail.BAD,
        "STATE", (long) AnyNail.STATE, "FULL", (long) AnyNail.FULL, "NO", AnyNail.NO);

    private static AnyNail object;
    private static final Set<String> shown = new TreeSet<>();
    private static int calls;
    private static int wrong;

    private static void say(String what) {
        wrong++;
        System.out.println("README.md: " + what);
    }

    /** The call's words as numbers and truths; null: one is neither. */
    private static Object[] given(String words) {
        String[] parts = words.isEmpty() ? new String[0] : words.split(", ");
        Object[] result = new Object[parts.length];
        for (int i = 0; i < parts.length; i++) {
            String part = parts[i];
            if (part.equals("true") || part.equals("false")) {
                result[i] = part.equals("true");
            } else if (part.matches("'.'")) {
                result[i] = (int) part.charAt(1);
            } else if (part.matches("-?\\d{1,9}")) {
                result[i] = Integer.parseInt(part);
            } else {
                return null;
            }
        }
        return result;
    }

    private static Method method(String name) {
        for (Method m : AnyNail.class.getDeclaredMethods()) {
            if (Modifier.isPublic(m.getModifiers()) && m.getName().equals(name)) {
                return m;
            }
        }
        return null;
    }

    private static void hold(String line, String name, String words, String answer) throws IllegalAccessException {
        Method m = method(name);
        Object[] given = given(words);
        Long want = answer.matches("-?\\d+") ? Long.valueOf(answer) : CONSTANTS.get(answer);
        if (m == null || given == null || want == null || object == null) {
            say("can't be run: " + line);
            return;
        }
        calls++;
        shown.add(name);
        try {
            long got = ((Number) m.invoke(object, given)).longValue();
            if (got != want) {
                say(line + " (answered " + got + ")");
            }
        } catch (InvocationTargetException | IllegalArgumentException e) {
            say(line + " (" + e + ")");
        }
    }

    private static void read(String line) throws IllegalAccessException {
        Matcher call = CALL.matcher(line);
        if (NEW_OBJECT.matcher(line).matches()) {
            object = new AnyNail();
        } else if (call.matches()) {
            hold(line, call.group(1), call.group(2), call.group(3));
        } else {
            say("a line that is no call with its answer: " + line);
        }
    }

    private static void readAll(List<String> lines) throws IllegalAccessException {
        boolean isJava = false;
        for (String line : lines) {
            if (line.startsWith("```")) {
                isJava = line.equals("```java");
            } else if (isJava) {
                read(line);
            }
        }
    }

    private static void askWhatIsShown() {
        for (Method m : AnyNail.class.getDeclaredMethods()) {
            if (Modifier.isPublic(m.getModifiers()) && !shown.contains(m.getName())) {
                say(m.getName() + " is not shown");
            }
        }
    }

    public static void main(String[] args) throws IOException, IllegalAccessException {
        readAll(Files.readAllLines(Path.of("README.md")));
        askWhatIsShown();
        System.out.println("ReadmeAnswers: " + calls + " calls shown, " + wrong + " not as due");
        if (wrong != 0) {
            System.exit(1);
        }
    }
}
