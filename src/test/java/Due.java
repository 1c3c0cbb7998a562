import java.io.IOException;
import java.lang.reflect.InvocationTargetException;
import java.lang.reflect.Method;
import java.lang.reflect.Modifier;
import java.nio.file.Files;
import java.nio.file.Path;
import java.util.Comparator;
import java.util.Map;
import java.util.TreeMap;

/**
 * What the tests share that stand on this class: answers held against those that are due, and the building of
 * cords and laws. It has no main itself.
 *
 * Rows are written as letters: a is a turn about nail 0 this way, A one about nail 0 that way, and so on.
 */
abstract class Due {
    static final int NONE = -1, BAD = -2, STATE = -3, FULL = -4, NOTHING = -5, OTHER_KIND = -6;
    static final long NO = Long.MIN_VALUE;
    static final int CORD = 0, ROUND = 1, ROUGH = 2, HEAVY = 3, TIED = 4, SLIPPING = 5, TOLD = 6;
    static final int LEAST_INT = Integer.MIN_VALUE, MOST_INT = Integer.MAX_VALUE;

    private static final String DOCUMENT = document();

    /** The sentence that is being tested; empty: none is told. */
    private static String held = "";
    private static int checked;
    private static int wrong;

    // ---- answers

    private static void say(String what) {
        wrong++;
        System.out.println((held.isEmpty() ? "" : held + ": ") + what);
    }

    static void due(String call, long want, long got) {
        checked++;
        if (got != want) {
            say(call + " answered " + got + ", due is " + want);
        }
    }

    static void dueText(String call, String want, String got) {
        checked++;
        if (!want.equals(got)) {
            say(call + " answered " + got + ", due is " + want);
        }
    }

    static void end(Class<?> tests, String what) {
        System.out.println(tests.getSimpleName() + ": " + what + checked + " answers, " + wrong + " not as due");
        if (wrong != 0) {
            System.exit(1);
        }
    }

    // ---- tests of sentences

    /** Which promise and which sentence of the document the test holds; the sentence must stand there. */
    static void sentence(int promise, String text) {
        held = "promise " + promise + ", \"" + text + "\"";
        if (DOCUMENT != null && !DOCUMENT.contains(text)) {
            say("the document has no such sentence");
        }
    }

    /** Runs every static method of the class that takes nothing, and asks that each of them names its sentence. */
    static void runAll(Class<?> tests) {
        Map<String, Method> found = new TreeMap<>(Comparator.naturalOrder());
        for (Method m : tests.getDeclaredMethods()) {
            if (Modifier.isStatic(m.getModifiers()) && m.getParameterCount() == 0 && m.getReturnType() == void.class) {
                found.put(m.getName(), m);
            }
        }
        for (Method m : found.values()) {
            held = "";
            try {
                m.invoke(null);
            } catch (InvocationTargetException e) {
                say(m.getName() + " ended by " + e.getCause());
            } catch (IllegalAccessException e) {
                say(m.getName() + " can't be run");
            }
            if (held.isEmpty()) {
                say(m.getName() + " names no sentence");
            }
        }
        end(tests, found.size() + " sentences, ");
    }

    /** The document in one line; null: it can't be read here. */
    private static String document() {
        try {
            return Files.readString(Path.of("../shared/DOC.md")).replaceAll("\\s+", " ");
        } catch (IOException e) {
            return null;
        }
    }

    // ---- building

    static void wind(AnyNail x, int cord, String row) {
        x.turn(cord, -1, 0);
        for (char c : row.toCharArray()) {
            int turn = turnOf(c);
            if (x.turn(cord, turn / 2, turn % 2) < 0) {
                say("winding " + row + " was refused");
            }
        }
    }

    /** A new object with so many nails and one cord. */
    static AnyNail with(int nails, int kind, int v, String row) {
        AnyNail x = new AnyNail();
        x.nails(nails);
        x.cord(kind, v);
        wind(x, 0, row);
        return x;
    }

    static void addCord(AnyNail x, int kind, int v, String row) {
        int number = x.cord(kind, v);
        if (number < 0) {
            say("a cord was refused");
        } else {
            wind(x, number, row);
        }
    }

    static int feedLaw(AnyNail x, String text) {
        for (char c : text.toCharArray()) {
            x.feed(c);
        }
        return x.law();
    }

    /** A new object with so many nails and one law. */
    static AnyNail withLaw(int nails, String text) {
        AnyNail x = new AnyNail();
        x.nails(nails);
        if (feedLaw(x, text) != 0) {
            say("the law " + text + " was refused");
        }
        return x;
    }

    static int turnOf(char letter) {
        return 2 * (Character.toLowerCase(letter) - 'a') + (Character.isUpperCase(letter) ? 1 : 0);
    }

    /** The turns of a cord from 100 on, or what is left from 200 on, as letters. */
    static String rowOf(AnyNail x, int cord, int from) {
        StringBuilder row = new StringBuilder();
        for (int k = 0; x.of(cord, from + k) >= 0; k++) {
            int turn = x.of(cord, from + k);
            row.append((char) ((turn % 2 == 0 ? 'a' : 'A') + turn / 2));
        }
        return row.toString();
    }

    /** Numbers that are far from any that is asked for, by which an index or a shift could wrap around. */
    static int[] farNumbers() {
        return new int[] {LEAST_INT, LEAST_INT + 1, -1_000_000, -100, 1_000_000, MOST_INT - 1, MOST_INT};
    }
}
