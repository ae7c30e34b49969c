import java.io.IOException;
import java.lang.reflect.Constructor;
import java.lang.reflect.Field;
import java.lang.reflect.Member;
import java.lang.reflect.Method;
import java.lang.reflect.Modifier;
import java.nio.file.Files;
import java.nio.file.Path;
import java.util.ArrayList;
import java.util.Arrays;
import java.util.List;
import java.util.Set;
import java.util.TreeSet;
import java.util.regex.Matcher;
import java.util.regex.Pattern;

/** The rules of LANGUAGE.md, as far as they can be seen from the class and its source; and the face of the document. */
public final class LanguageTest {
    private static final Checks CHECKS = new Checks();
    private static final String FACE = " feed(long) end(int) text() fault() rule(int) add(int) clear() value(int) "
            + "stripe(int) bit(int) write(int,int,int,int) gap(int) alter(int,int) miss(int) split(int,int) turn() "
            + "read(int,int) heard(int) found(int) symbol(int) mended(int) way() smooth(int) smoothBit(int) "
            + "margin(int,int) sway() keep() joined(int) join(int) drop() sheet(int,int,int) lay(int,int,int) "
            + "load(int,int,int,int) wipe() torn() count(int)";

    public static void main(String[] args) throws IOException {
        face();
        classesInside();
        staticFields();
        source(Files.readString(Path.of("src/main/java/SwipedStripe.java")));
        CHECKS.finish();
    }

    private static boolean isSeen(Member m) {
        return !Modifier.isPrivate(m.getModifiers());
    }

    private static void face() {
        Class<?> c = SwipedStripe.class;
        CHECKS.due("public and final", c.getModifiers(), Modifier.PUBLIC | Modifier.FINAL);
        Set<String> methods = new TreeSet<>();
        for (Method m : c.getDeclaredMethods()) {
            if (isSeen(m)) {
                CHECKS.holds(m + " is public, and int", Modifier.isPublic(m.getModifiers())
                        && !Modifier.isStatic(m.getModifiers()) && m.getReturnType() == int.class);
                List<String> types = new ArrayList<>();
                for (Class<?> t : m.getParameterTypes()) {
                    types.add(t.getName());
                }
                methods.add(m.getName() + "(" + String.join(",", types) + ")");
            }
        }
        CHECKS.holds("the methods of the face: " + methods,
                methods.equals(new TreeSet<>(Arrays.asList(FACE.trim().split(" ")))));
        Set<String> fields = new TreeSet<>();
        for (Field f : c.getDeclaredFields()) {
            if (isSeen(f)) {
                fields.add(f.getName());
            }
        }
        CHECKS.holds("the constants of the face: " + fields, fields.equals(Set.of("BAD", "STATE", "FULL", "NONE")));
        int seen = 0;
        for (Constructor<?> made : c.getDeclaredConstructors()) {
            seen += isSeen(made) ? 1 : 0;
        }
        CHECKS.due("constructors", seen, 1);
        CHECKS.due("BAD", SwipedStripe.BAD, -1);
        CHECKS.due("STATE", SwipedStripe.STATE, -2);
        CHECKS.due("FULL", SwipedStripe.FULL, -3);
        CHECKS.due("NONE", SwipedStripe.NONE, -4);
    }

    private static void classesInside() {
        Class<?>[] inside = SwipedStripe.class.getDeclaredClasses();
        CHECKS.holds("twelve classes at most", inside.length <= 11);
        for (Class<?> c : inside) {
            CHECKS.holds(c + " is static", Modifier.isStatic(c.getModifiers()));
            CHECKS.holds(c + " is not public", !Modifier.isPublic(c.getModifiers()));
            CHECKS.due("classes inside " + c, c.getDeclaredClasses().length, 0);
            for (Method m : c.getDeclaredMethods()) {
                CHECKS.holds(m + " has a name of its own", !FACE.contains(" " + m.getName() + "("));
            }
        }
        for (Method m : SwipedStripe.class.getDeclaredMethods()) {
            CHECKS.holds(m + " has a name of its own",
                    Modifier.isPublic(m.getModifiers()) || !FACE.contains(" " + m.getName() + "("));
        }
    }

    private static void staticFields() {
        List<Class<?>> all = new ArrayList<>(Arrays.asList(SwipedStripe.class.getDeclaredClasses()));
        all.add(SwipedStripe.class);
        Set<Class<?>> fine = Set.of(int.class, long.class, boolean.class, char.class, String.class, int[].class,
                long[].class, char[].class, byte[].class);
        for (Class<?> c : all) {
            int own = 0;
            for (Field f : c.getDeclaredFields()) {
                if (Modifier.isStatic(f.getModifiers())) {
                    CHECKS.holds(f + " is final", Modifier.isFinal(f.getModifiers()));
                    CHECKS.holds(f + " is of a type that may be", fine.contains(f.getType()));
                } else {
                    own++;
                }
            }
            CHECKS.holds(c + " has twenty fields at most", own <= 20);
            for (Method m : c.getDeclaredMethods()) {
                CHECKS.holds(m + " takes seven at most", m.getParameterCount() <= 7);
            }
        }
    }

    private static void source(String text) {
        CHECKS.holds("signs 1 to 127 alone", text.chars().allMatch(c -> c > 0 && c < 128));
        String code = text.replaceAll("(?s)/\\*.*?\\*/", "").replaceAll("//.*", "").replaceAll("\"[^\"]*\"", "\"\"");
        for (String word : "throw throws try catch finally synchronized assert import package native volatile transient var "
                .concat("equals hashCode toString System Object Exception Thread Random double float").split(" ")) {
            CHECKS.holds("no " + word, !Pattern.compile("\\b" + word + "\\b").matcher(code).find());
        }
        CHECKS.holds("no lambda, no method reference", !code.contains("->") && !code.contains("::"));
        CHECKS.holds("no static block", !Pattern.compile("static\\s*\\{").matcher(code).find());
        CHECKS.holds("no loop without a test",
                !Pattern.compile("while\\s*\\(true|for\\s*\\([^;]*;\\s*;").matcher(code).find());
        Matcher called = Pattern.compile("\\b(Math|Integer|Long|Arrays)\\.(\\w+)").matcher(code);
        Set<String> listed = Set.of("Math.max", "Math.min", "Math.abs", "Integer.bitCount");
        while (called.find()) {
            CHECKS.holds(called.group() + " is of the library that may be used", listed.contains(called.group()));
        }
        shortMethods(text);
    }

    private static void shortMethods(String text) {
        int from = 0;
        String[] lines = text.split("\n");
        for (int i = 0; i < lines.length; i++) {
            if (lines[i].matches(" {4,8}\\S.*\\) \\{")) {
                from = i;
            }
            if (lines[i].matches(" {4,8}\\}")) {
                CHECKS.holds("the method at line " + (from + 1) + " is short", from == 0 || i - from < 60
                        || !lines[from].startsWith(lines[i].replace("}", "") + lines[from].trim().charAt(0)));
            }
        }
    }
}
