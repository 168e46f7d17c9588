import java.io.IOException;
import java.io.StringWriter;
import java.net.URL;
import java.net.URLClassLoader;
import java.nio.file.Files;
import java.nio.file.Path;
import java.util.List;
import java.util.Set;
import java.util.TreeSet;
import java.util.stream.Stream;
import javax.tools.JavaCompiler;
import javax.tools.StandardJavaFileManager;
import javax.tools.ToolProvider;

/** Breaks the class sentence by sentence: the test of a broken sentence must fail. */
public final class BreaksTest {
    private static final Path SOURCE = Path.of("src/main/java/BalancedSplits.java");
    private static final Check CHECK = new Check("BreaksTest");
    private final JavaCompiler compiler = ToolProvider.getSystemJavaCompiler();
    private final Path room;
    private final URL own = BreaksTest.class.getProtectionDomain().getCodeSource().getLocation();

    private BreaksTest(Path room) {
        this.room = room;
    }

    public static void main(String[] args) throws Exception {
        Path room = Files.createTempDirectory("breaks");
        try {
            new BreaksTest(room).lookAtAll();
        } finally {
            removeAll(room);
        }
        CHECK.end();
    }

    private void lookAtAll() throws Exception {
        String source = Files.readString(SOURCE);
        Set<String> without = new TreeSet<>(SentencesTest.sentences().numbers());
        int place = 0;
        for (Breaks.Break one : Breaks.all()) {
            Path broken = Files.createDirectory(room.resolve("broken" + place));
            compile(one, one.applyTo(source), broken);
            CHECK.holds("test " + one.number() + " fails when broken by " + one.edits(), !holds(one.number(), broken));
            without.remove(one.number());
            place++;
        }
        CHECK.holds("each test has been broken, but for " + without, without.isEmpty());
    }

    private void compile(Breaks.Break one, String text, Path into) throws IOException {
        Path file = into.resolve("BalancedSplits.java");
        Files.writeString(file, text);
        StringWriter said = new StringWriter();
        try (StandardJavaFileManager files = compiler.getStandardFileManager(null, null, null)) {
            boolean done = compiler.getTask(said, files, null,
                    List.of("-proc:none", "-nowarn", "-d", into.toString()), null,
                    files.getJavaFileObjects(file)).call();
            if (!done) {
                throw new IllegalStateException(one + " cannot be compiled: " + said);
            }
        }
    }

    /** The tests are loaded anew with the broken class, as it stands before the whole one. */
    private boolean holds(String number, Path broken) throws Exception {
        URL[] from = {broken.toUri().toURL(), own};
        try (URLClassLoader loader = new URLClassLoader(from, ClassLoader.getPlatformClassLoader())) {
            return (boolean) loader.loadClass("SentencesTest").getMethod("holds", String.class).invoke(null, number);
        }
    }

    private static void removeAll(Path room) throws IOException {
        try (Stream<Path> all = Files.walk(room)) {
            for (Path path : all.sorted((a, b) -> b.compareTo(a)).toList()) {
                Files.delete(path);
            }
        }
    }
}
