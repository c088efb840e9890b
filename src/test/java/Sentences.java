import java.io.IOException;
import java.nio.file.Files;
import java.nio.file.Path;
import java.util.TreeSet;

/** The sentences of the document that tests are for: each must stand there, word by word. */
final class Sentences {
    private static final String DOCUMENT = read();
    private static final TreeSet<Integer> PROMISES = new TreeSet<>();

    private Sentences() {
    }

    private static String read() {
        try {
            return oneLine(Files.readString(Path.of("../shared/DOC.md")));
        } catch (IOException e) {
            throw new IllegalStateException(e);
        }
    }

    private static String oneLine(String text) {
        return text.replaceAll("\\s+", " ");
    }

    /** What comes now is for these words ahead of the promises. */
    static void terms(String words) {
        String ahead = DOCUMENT.substring(0, DOCUMENT.indexOf("## Promise 1:"));
        say(words, ahead);
    }

    /** What comes now is for these words of a promise. */
    static void promise(int number, String words) {
        int start = DOCUMENT.indexOf("## Promise " + number + ":");
        int end = DOCUMENT.indexOf("## ", start + 3);
        PROMISES.add(number);
        say(words, DOCUMENT.substring(start, end));
    }

    private static void say(String words, String where) {
        Court.about("");
        Court.due("the document says: " + words, where.contains(oneLine(words)), true);
        Court.about("[" + words + "] ");
    }

    /** Each promise was spoken of. */
    static void allPromises() {
        Court.about("");
        for (int i = 1; i <= 46; i++) {
            Court.due("promise " + i + " has a test at its edges", PROMISES.contains(i), true);
        }
    }
}
