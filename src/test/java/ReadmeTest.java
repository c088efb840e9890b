import java.io.IOException;
import java.io.UncheckedIOException;
import java.net.URL;
import java.net.URLClassLoader;
import java.nio.file.Files;
import java.nio.file.Path;
import java.util.Comparator;
import java.util.regex.Matcher;
import java.util.regex.Pattern;
import java.util.stream.Stream;
import javax.tools.ToolProvider;

/** The code in README.md compiles, and each call there answers what stands behind it. */
public final class ReadmeTest {
    private static final Pattern BLOCK = Pattern.compile("```java\n(.*?)```", Pattern.DOTALL);
    private static final Pattern CALL = Pattern.compile("(?m)^(x\\.\\w+\\(.*\\)); +// (\\w+)(:.*|)$");

    public static void main(String[] args) throws ReflectiveOperationException, IOException {
        Matcher blocks = BLOCK.matcher(Files.readString(Path.of("README.md")));
        Court.due("README.md has functions", blocks.find(), true);
        String functions = blocks.group(1);
        Court.due("README.md has calls", blocks.find(), true);
        String calls = blocks.group(1);
        Court.due("each call has its answer", CALL.matcher(calls).results().count(), bare(calls));
        run("public final class Readme {\n" + functions + "public static void main(String[] args) {\n"
                + checked(calls) + "}\n}\n");
        Court.end("ReadmeTest");
    }

    /** For the code that is made of README.md, which another loader brings. */
    public static void due(String call, long got, long want) {
        Court.due(call, got, want);
    }

    public static void due(String call, boolean got, boolean want) {
        Court.due(call, got, want);
    }

    private static long bare(String calls) {
        return calls.lines().filter(line -> line.startsWith("x.")).count();
    }

    /** Holds each call's answer against the word that its comment begins with. */
    private static String checked(String calls) {
        return CALL.matcher(calls).replaceAll(call -> {
            String want = call.group(2).equals("NONE") ? "AskingCourt.NONE" : call.group(2);
            return Matcher.quoteReplacement("ReadmeTest.due(\"" + call.group(1) + "\", " + call.group(1) + ", " + want + ");");
        });
    }

    private static void run(String source) throws ReflectiveOperationException, IOException {
        Path room = Files.createTempDirectory("readme");
        try {
            Path file = Files.writeString(room.resolve("Readme.java"), source);
            String classes = System.getProperty("java.class.path");
            int failed = ToolProvider.getSystemJavaCompiler().run(null, null, null, "-cp", classes, "-d",
                    room.toString(), file.toString());
            Court.due("README.md compiles", failed, 0);
            if (failed == 0) {
                try (URLClassLoader loader = new URLClassLoader(new URL[] {room.toUri().toURL()})) {
                    loader.loadClass("Readme").getMethod("main", String[].class).invoke(null, (Object) new String[0]);
                }
            }
        } finally {
            remove(room);
        }
    }

    private static void remove(Path room) throws IOException {
        try (Stream<Path> files = Files.walk(room)) {
            files.sorted(Comparator.reverseOrder()).forEach(ReadmeTest::delete);
        }
    }

    private static void delete(Path file) {
        try {
            Files.delete(file);
        } catch (IOException e) {
            throw new UncheckedIOException(e);
        }
    }
}
