import java.lang.reflect.Constructor;
import java.lang.reflect.Field;
import java.lang.reflect.Method;
import java.lang.reflect.Modifier;
import java.nio.file.Files;
import java.nio.file.Path;
import java.util.ArrayList;
import java.util.Arrays;
import java.util.List;
import java.util.Set;
import java.util.TreeSet;
import java.util.regex.Pattern;

/** The public face, and the rules of LANGUAGE.md that can be seen from the class and its text. */
public final class FaceTest {
    private static final String SOURCE = "src/main/java/BalancedSplits.java";
    private static final Check CHECK = new Check("FaceTest");
    private static final List<String> FACE = List.of("node 1", "arc 3", "parts 1", "bound 3", "put 2",
            "clear 0", "of 2", "between 2", "part 2", "cut 0", "over 0", "gain 2", "level 2", "inLevel 2",
            "levelOf 3", "run 0", "refine 0", "grow 0", "stream 2", "order 2", "exact 0", "separator 1",
            "count 1");

    public static void main(String[] args) throws Exception {
        face();
        hiddenMembers();
        innerClasses();
        text();
        CHECK.end();
    }

    private static void face() {
        Class<?> c = BalancedSplits.class;
        CHECK.holds("public final", Modifier.isPublic(c.getModifiers()) && Modifier.isFinal(c.getModifiers()));
        Set<String> methods = new TreeSet<>();
        for (Method m : c.getDeclaredMethods()) {
            if (!Modifier.isPrivate(m.getModifiers())) {
                methods.add(m.getName() + " " + m.getParameterCount());
                CHECK.holds(m + " is public and answers an int",
                        Modifier.isPublic(m.getModifiers()) && m.getReturnType() == int.class);
                for (Class<?> p : m.getParameterTypes()) {
                    CHECK.holds(m + " takes ints", p == int.class);
                }
            }
        }
        CHECK.holds("the methods are " + methods, methods.equals(new TreeSet<>(FACE)));
        Constructor<?>[] made = c.getDeclaredConstructors();
        CHECK.holds("one public constructor", made.length == 1 && made[0].getParameterCount() == 0
                && Modifier.isPublic(made[0].getModifiers()));
    }

    private static void hiddenMembers() {
        Set<String> open = new TreeSet<>();
        for (Field f : BalancedSplits.class.getDeclaredFields()) {
            if (!Modifier.isPrivate(f.getModifiers())) {
                open.add(f.getName());
                CHECK.holds(f + " is a public constant", f.getType() == int.class
                        && f.getModifiers() == (Modifier.PUBLIC | Modifier.STATIC | Modifier.FINAL));
            }
            CHECK.holds(f + ": a static field is final",
                    !Modifier.isStatic(f.getModifiers()) || Modifier.isFinal(f.getModifiers()));
        }
        CHECK.holds("the constants are " + open, open.equals(Set.of("BAD", "NONE", "FULL", "TURN")));
    }

    private static void innerClasses() {
        Class<?>[] inside = BalancedSplits.class.getDeclaredClasses();
        CHECK.holds("at most twelve classes", inside.length <= 12);
        Set<String> names = new TreeSet<>();
        for (String row : FACE) {
            names.add(row.split(" ")[0]);
        }
        List<Class<?>> all = new ArrayList<>(Arrays.asList(inside));
        all.add(BalancedSplits.class);
        for (Class<?> c : all) {
            CHECK.holds(c + " is static", c == BalancedSplits.class || Modifier.isStatic(c.getModifiers()));
            for (Method m : c.getDeclaredMethods()) {
                CHECK.holds(m + " has a name of its own",
                        Modifier.isPublic(m.getModifiers()) || !names.contains(m.getName()));
                CHECK.holds(m + " takes seven at most", m.getParameterCount() <= 7);
            }
            int fields = 0;
            for (Field f : c.getDeclaredFields()) {
                fields += Modifier.isStatic(f.getModifiers()) ? 0 : 1;
            }
            CHECK.holds(c + " has twenty fields at most", fields <= 20);
        }
    }

    private static void text() throws Exception {
        String text = Files.readString(Path.of(SOURCE));
        String code = text.replaceAll("(?s)/\\*.*?\\*/", "").replaceAll("//[^\n]*", "");
        for (String word : List.of("throw", "throws", "try", "catch", "finally", "synchronized", "assert",
                "package", "Random", "System\\.(?!arraycopy)", "Thread", "Exact", "protected", "Object",
                "double", "float", "Integer", "Long")) {
            CHECK.holds("no " + word, !Pattern.compile("\\b" + word + "\\b|" + word + "\\(").matcher(code).find());
        }
        CHECK.holds("no lambda, no method reference", !code.contains("->") && !code.contains("::"));
        // Rows are made with the object: a 'new' stands in a field's line alone.
        for (String line : code.split("\n")) {
            CHECK.holds("made once: " + line, !line.contains("new ") || line.contains("final "));
            CHECK.holds("only Arrays comes from the library: " + line,
                    !line.startsWith("import") || line.equals("import java.util.Arrays;"));
        }
        for (int i = 0; i < text.length(); i++) {
            if (text.charAt(i) > 126) {
                CHECK.holds("plain characters at " + i, false);
            }
        }
    }
}
