import java.lang.reflect.Constructor;
import java.lang.reflect.Field;
import java.lang.reflect.Method;
import java.lang.reflect.Modifier;
import java.nio.file.Files;
import java.nio.file.Path;
import java.util.ArrayList;
import java.util.List;
import java.util.TreeSet;
import java.util.regex.Matcher;
import java.util.regex.Pattern;

/** The face of the class, and those rules of ../shared/LANGUAGE.md that can be seen in its text. Run from the project's root. */
public final class LanguageRules {
    private static final String FACE = "act(int,int,int)int alike(int,int,int)int as(int,int)int cord(int,int)int "
        + "count(int)int falls(int,int)int feed(int)int fits()int game(int,int)int hangs(int,int,int)long image()int "
        + "keeps(int,int)int law()int mend(int,int)int nail(int,int,int)int nails(int)int odds(int,int)long "
        + "of(int,int)int see(int,boolean)int set(int,int,boolean)int sets(int)int shortest(int,int,int)int "
        + "told(int)int trace(int)int tries()int turn(int,int,int)int undo()int weave(int,int)int";
    private static final String[] NOT_ALLOWED = {
        "\\bthrow\\b", "\\bthrows\\b", "\\btry\\b", "\\bcatch\\b", "\\bsynchronized\\b", "\\bassert\\b", "\\bimport\\b",
        "\\bpackage\\b", "->", "::", "\\bstatic\\s*\\{", "\\bhashCode\\b", "\\btoString\\b", "Exact\\b", "%=", "/=",
        "\\bprotected\\b", "\\bSystem\\.(?!arraycopy)", "\\bdouble\\b", "\\bfloat\\b",
    };

    private static int wrong;

    private static void say(String what) {
        wrong++;
        System.out.println(what);
    }

    public static void main(String[] args) throws Exception {
        face();
        text(Files.readString(Path.of("src/main/java/AnyNail.java")));
        System.out.println("LanguageRules: " + wrong + " broken");
        if (wrong != 0) {
            System.exit(1);
        }
    }

    private static void face() {
        Class<?> type = AnyNail.class;
        if (!Modifier.isPublic(type.getModifiers()) || !Modifier.isFinal(type.getModifiers())) {
            say("the class is not public and final");
        }
        TreeSet<String> found = new TreeSet<>();
        TreeSet<String> names = new TreeSet<>();
        for (Method m : type.getDeclaredMethods()) {
            if (Modifier.isPublic(m.getModifiers())) {
                StringBuilder face = new StringBuilder(m.getName()).append('(');
                for (Class<?> p : m.getParameterTypes()) {
                    face.append(face.charAt(face.length() - 1) == '(' ? "" : ",").append(p.getName());
                }
                found.add(face.append(')').append(m.getReturnType().getName()).toString());
                names.add(m.getName());
            } else if (!Modifier.isPrivate(m.getModifiers()) && !m.isSynthetic()) {
                say("neither public nor private: " + m);
            }
        }
        if (!String.join(" ", found).equals(FACE)) {
            say("the face is " + String.join(" ", found));
        }
        TreeSet<String> constants = new TreeSet<>();
        for (Field f : type.getDeclaredFields()) {
            if (Modifier.isPublic(f.getModifiers())) {
                constants.add(f.getName());
            }
        }
        if (!constants.toString().equals("[BAD, FULL, NO, NONE, STATE]")) {
            say("the constants are " + constants);
        }
        Constructor<?>[] constructors = type.getDeclaredConstructors();
        if (constructors.length != 1 || constructors[0].getParameterCount() != 0) {
            say("there is another constructor");
        }
        List<Class<?>> all = new ArrayList<>(List.of(type.getDeclaredClasses()));
        all.add(type);
        for (Class<?> c : all) {
            privateNames(c, names);
        }
    }

    private static void privateNames(Class<?> c, TreeSet<String> names) {
        for (Method m : c.getDeclaredMethods()) {
            if (!Modifier.isPublic(m.getModifiers()) && names.contains(m.getName())) {
                say("bears the name of a public one: " + m);
            }
            if (m.getParameterCount() > 7) {
                say("more than seven parameters: " + m);
            }
        }
        int fields = 0;
        for (Field f : c.getDeclaredFields()) {
            boolean isStatic = Modifier.isStatic(f.getModifiers());
            fields += isStatic ? 0 : 1;
            if (isStatic && !Modifier.isFinal(f.getModifiers())) {
                say("static and not final: " + f);
            }
        }
        if (fields > 20) {
            say("more than twenty fields: " + c);
        }
    }

    private static void text(String source) {
        String code = source.replaceAll("(?s)/\\*.*?\\*/", "").replaceAll("//[^\n]*", "");
        for (String pattern : NOT_ALLOWED) {
            Matcher m = Pattern.compile(pattern).matcher(code);
            if (m.find()) {
                say("not allowed: " + m.group());
            }
        }
        String[] lines = code.split("\n");
        int begin = 0;
        for (int i = 0; i < lines.length; i++) {
            if (lines[i].matches(" {4,8}\\w.*\\(.*\\) \\{")) {
                begin = i;
            } else if (lines[i].matches(" {4,8}\\}") && i - begin > 60) {
                boolean isClass = lines[i].startsWith("    }") && lines[begin].startsWith("        ");
                if (!isClass) {
                    say("a long method ends in line " + i);
                }
            }
        }
    }
}
