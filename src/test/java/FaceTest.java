import java.io.IOException;
import java.lang.reflect.Constructor;
import java.lang.reflect.Field;
import java.lang.reflect.Method;
import java.lang.reflect.Modifier;
import java.nio.file.Files;
import java.nio.file.Path;
import java.util.Arrays;
import java.util.List;
import java.util.TreeSet;
import java.util.regex.Matcher;
import java.util.regex.Pattern;

/** The public face to the letter, and what of the rules for the language can be read from the source. */
public final class FaceTest {
    private static final List<String> FACE = List.of("int status()", "long top()", "long bottom()",
            "boolean tray(int,int,int)", "boolean write(int,int,long)", "long read(int,int)",
            "boolean pour(int,int,int,int,int)", "int feed(int,int,int,int,int)", "int court(int)", "int plan(int)",
            "int fault(int)", "int told(int)", "int value(int,int)", "int world(int,int)", "int possible(int)",
            "int holds(int,int)", "int fee(int)", "int witness(int,int)", "int answer(int,int,int,int)",
            "boolean hear(int,int,int)", "int unsay()", "int nextDay()", "int heard(int,int)", "int left()",
            "int isLeft(int)", "int fits(int,int,int)", "int sure(int)", "boolean chance(int)",
            "boolean trust(int,int)", "int because(int)", "int gave(int)", "int fees()", "int worst(int,int)",
            "int best(int)", "int shortest(int,int)", "int shortestFirst(int)", "int settled()", "int bench()",
            "int clash()", "int liars()", "int sit(int)", "int sat(int)", "int tally(int,int,int)", "int mark()",
            "int back()");
    private static final Path SOURCE = Path.of("src/main/java/AskingCourt.java");

    public static void main(String[] args) throws IOException {
        face();
        insideClasses();
        String source = Files.readString(SOURCE);
        words(source);
        methods(source);
        Court.end("FaceTest");
    }

    private static void face() {
        Class<?> face = AskingCourt.class;
        Court.due("public and final", face.getModifiers(), Modifier.PUBLIC | Modifier.FINAL);
        Court.due("NONE", AskingCourt.NONE, -1);
        TreeSet<String> methods = new TreeSet<>();
        for (Method method : face.getDeclaredMethods()) {
            if (Modifier.isPublic(method.getModifiers())) {
                String types = Arrays.toString(method.getParameterTypes()).replaceAll("[\\[\\] ]", "");
                methods.add(method.getReturnType() + " " + method.getName() + "(" + types + ")");
            } else {
                Court.due(method + " is private", Modifier.isPrivate(method.getModifiers()) || method.isSynthetic(), true);
                Court.due(method + " has a name of its own", isFaceName(method.getName()), false);
            }
        }
        Court.due("the methods: " + methods, methods.equals(new TreeSet<>(FACE)), true);
        for (Field field : face.getDeclaredFields()) {
            boolean isNone = field.getName().equals("NONE");
            Court.due(field + " is private", Modifier.isPrivate(field.getModifiers()), !isNone);
        }
        Constructor<?>[] made = face.getDeclaredConstructors();
        Court.due("constructors", made.length, 1);
        Court.due("public constructor", Modifier.isPublic(made[0].getModifiers()), true);
    }

    private static boolean isFaceName(String name) {
        return FACE.stream().anyMatch(one -> one.contains(" " + name + "("));
    }

    private static void insideClasses() {
        Class<?>[] inside = AskingCourt.class.getDeclaredClasses();
        Court.due("at most twelve classes", inside.length <= 12, true);
        for (Class<?> one : inside) {
            Court.due(one + " is static", Modifier.isStatic(one.getModifiers()), true);
            int fields = 0;
            for (Field field : one.getDeclaredFields()) {
                boolean isStatic = Modifier.isStatic(field.getModifiers());
                fields += isStatic ? 0 : 1;
                Court.due(field + ": static is final", isStatic && !Modifier.isFinal(field.getModifiers()), false);
            }
            Court.due(one + " has few fields", fields <= 20, true);
            for (Method method : one.getDeclaredMethods()) {
                Court.due(method + " has a name of its own", isFaceName(method.getName()), false);
                Court.due(method + " takes at most seven", method.getParameterCount() <= 7, true);
            }
        }
    }

    private static void words(String source) {
        String code = source.replaceAll("(?s)/\\*.*?\\*/", "").replaceAll("//.*", "").replaceAll("\"[^\"]*\"", "\"\"");
        Court.due("one library class", code.split("import ").length - 1, 1);
        Court.due("java.util.Arrays", code.contains("import java.util.Arrays;"), true);
        String forbidden = "throw|throws|try|catch|synchronized|assert|finally|double|float|System\\.out|Object"
                + "|equals|hashCode|toString|->|::|package|Exact|var|yield|native|volatile|protected";
        Matcher matcher = Pattern.compile("(?<![A-Za-z])(" + forbidden + ")(?![A-Za-z])").matcher(code);
        while (matcher.find()) {
            Court.due("the source has no " + matcher.group(), 1, 0);
        }
        Matcher library = Pattern.compile("\\b(Math|Integer|Long|Arrays|System|String)\\.(\\w+)").matcher(code);
        List<String> may = List.of("Math.max", "Math.min", "Integer.bitCount", "Arrays.fill", "System.arraycopy");
        while (library.find()) {
            Court.due(library.group() + " may be used", may.contains(library.group()), true);
        }
        Court.due("signs below 128", source.chars().allMatch(c -> c == '\n' || c >= 32 && c < 127), true);
    }

    private static void methods(String source) {
        String[] lines = source.split("\n");
        int start = 0;
        String end = null;
        for (int i = 0; i < lines.length; i++) {
            if (lines[i].matches("( {4}| {8})[a-zA-Z].*\\) \\{") && !lines[i].contains("class ")) {
                start = i;
                end = lines[i].replaceAll("\\S.*", "") + "}";
            } else if (lines[i].equals(end)) {
                Court.due("the method at line " + (start + 1) + " is short", i - start <= 60, true);
                end = null;
            }
        }
    }
}
