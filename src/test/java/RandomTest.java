import java.lang.reflect.Method;
import java.util.ArrayList;
import java.util.Arrays;
import java.util.Comparator;
import java.util.List;
import java.util.Map;
import java.util.Random;

/** Drawn runs of calls, each call held against the Oracle, its status too. All promises. */
public final class RandomTest {
    private static final List<String> ONCE_IN_A_WHILE = List.of("tally", "back", "mark", "court", "plan",
            "feed", "nextDay", "unsay");
    private static final List<String> HEAVY = List.of("shortest", "tally", "sit");

    private final Random random;
    private final AskingCourt court = new AskingCourt();
    private final Oracle oracle = new Oracle();
    private final Texts texts;
    private final List<String> log = new ArrayList<>();
    private final int mostWorlds;

    private RandomTest(long seed) {
        random = new Random(seed);
        texts = new Texts(random);
        mostWorlds = random.nextInt(10) == 0 ? 256 : 40;
    }

    public static void main(String[] args) throws ReflectiveOperationException {
        int runs = args.length > 0 ? Integer.parseInt(args[0]) : 300;
        long from = args.length > 1 ? Long.parseLong(args[1]) : 1;
        List<Method> methods = new ArrayList<>(Arrays.asList(Oracle.class.getDeclaredMethods()));
        methods.removeIf(m -> !java.lang.reflect.Modifier.isPublic(m.getModifiers()));
        methods.sort(Comparator.comparing(Method::getName));
        Court.due("methods of the face", methods.size(), 45);
        for (int i = 0; i < runs; i++) {
            RandomTest run = new RandomTest(from + i);
            if (!run.play(methods)) {
                System.out.println("run " + (from + i) + " went wrong:");
                run.log.forEach(System.out::println);
                Court.due("run " + (from + i), 1, 0);
                break;
            }
        }
        Court.end("RandomTest");
    }

    private boolean play(List<Method> methods) throws ReflectiveOperationException {
        boolean good = true;
        int calls = 0;
        while (good && calls < 500) {
            int what = random.nextInt(100);
            if (what == 99) {
                good = solvePuzzle();
                calls += 50;
            } else if (calls == 0 || what < 2) {
                int luck = random.nextInt(10);
                String text = luck < 2 && calls > 0 ? texts.wildCase() : texts.goodCase(mostWorlds);
                good = bring("court", luck == 9 && calls > 0 ? texts.spoil(text) : text);
                calls += 40;
            } else if (what < 6) {
                String text = texts.goodPlan();
                good = bring("plan", random.nextInt(3) == 0 ? texts.spoil(text) : text);
                calls += 20;
            } else if (what < 20) {
                good = hearSomethingLikely();
                calls += 3;
            } else {
                good = drawnCall(methods);
                calls += 2;
            }
        }
        return good;
    }

    private boolean call(String name, Object... args) throws ReflectiveOperationException {
        Class<?>[] types = new Class<?>[args.length];
        for (int i = 0; i < args.length; i++) {
            types[i] = args[i] instanceof Long ? long.class : int.class;
        }
        Object got = AskingCourt.class.getMethod(name, types).invoke(court, args);
        Object due = Oracle.class.getMethod(name, types).invoke(oracle, args);
        boolean same = got.equals(due) && court.status() == oracle.status()
                && court.top() == oracle.top() && court.bottom() == oracle.bottom()
                && court.fault(0) == oracle.fault(0) && court.fault(1) == oracle.fault(1);
        log.add(name + Arrays.toString(args) + " gave " + got + " status " + court.status() + ", due "
                + due + " status " + oracle.status() + "; faults " + court.fault(0) + " at "
                + court.fault(1) + ", due " + oracle.fault(0) + " at " + oracle.fault(1));
        Court.due(name, same, true);
        return same;
    }

    private boolean bring(String name, String text) throws ReflectiveOperationException {
        log.add("text: " + text);
        boolean good = true;
        for (int i = 0; i < text.length() && good; i += 20) {
            Object[] fives = new Object[5];
            for (int j = 0; j < 5; j++) {
                int five = 0;
                for (int k = 0; k < 4; k++) {
                    int at = i + 4 * j + k;
                    five = five << 8 | (at < text.length() ? text.charAt(at) & 255 : 32);
                }
                fives[j] = five;
            }
            good = call("feed", fives);
        }
        int n = random.nextInt(30) == 0 ? random.nextInt(1000) : text.length();
        good = good && call(name, n);
        return good && (court.status() != 1 || call("court", 0));
    }

    private boolean solvePuzzle() throws ReflectiveOperationException {
        boolean good = bring("court", texts.puzzle());
        for (int i = 0; i < 5 && good; i++) {
            int question = upTo(oracle.told(3));
            court.told(3);
            good = call("hear", 0, question, 2 * question) && call("shortest", question, 1)
                    && call("shortestFirst", 1) && call("shortest", question, -1)
                    && call("shortestFirst", 0) && call("shortestFirst", 1) && hearSomethingLikely();
        }
        return good;
    }

    private boolean hearSomethingLikely() throws ReflectiveOperationException {
        int witness = upTo(oracle.told(4));
        int question = upTo(oracle.told(3));
        int world = upTo(oracle.told(2));
        int kind = random.nextInt(4);
        for (int i = 0; i < 20 && oracle.isLeft(world) != 1; i++) {
            world = upTo(oracle.told(2));
        }
        for (int i = 0; i < 20 && oracle.fits(witness, kind, world) != 1; i++) {
            kind = random.nextInt(4);
        }
        int answer = oracle.answer(witness, question, world, kind);
        court.answer(witness, question, world, kind);
        return call("hear", witness, question, answer);
    }

    private int upTo(int many) {
        return many > 0 ? random.nextInt(many) : 0;
    }

    private boolean drawnCall(List<Method> methods) throws ReflectiveOperationException {
        Method method = methods.get(random.nextInt(methods.size()));
        String name = method.getName();
        court.told(2);
        boolean large = oracle.told(2) > 100;
        if (ONCE_IN_A_WHILE.contains(name) && random.nextInt(3) != 0
                || HEAVY.contains(name) && large && random.nextInt(4) != 0
                || name.equals("feed") && random.nextInt(10) != 0) {
            return true;
        }
        Class<?>[] types = method.getParameterTypes();
        Object[] args = new Object[types.length];
        for (int i = 0; i < args.length; i++) {
            args[i] = types[i] == long.class ? (Object) random.nextLong() : (Object) number(name, i);
        }
        return call(name, args);
    }

    /** What each argument is: a Witness, Question, worLd, Kind, Value, Fact, heard answer, or up to a digit. */
    private static final Map<String, String> ROLES = Map.ofEntries(
            Map.entry("value", "V1"), Map.entry("world", "LF"), Map.entry("possible", "L"),
            Map.entry("holds", "QL"), Map.entry("fee", "Q"), Map.entry("witness", "W5"),
            Map.entry("answer", "WQLK"), Map.entry("hear", "WQS"), Map.entry("heard", "H3"),
            Map.entry("isLeft", "L"), Map.entry("fits", "WKL"), Map.entry("sure", "Q"),
            Map.entry("chance", "Q"), Map.entry("trust", "WK"), Map.entry("because", "Q"),
            Map.entry("gave", "H"), Map.entry("worst", "WQ"), Map.entry("best", "W"),
            Map.entry("shortest", "QA"), Map.entry("shortestFirst", "1"), Map.entry("told", "7"),
            Map.entry("sat", "5"), Map.entry("write", "39"), Map.entry("read", "39"),
            Map.entry("fault", "1"), Map.entry("tray", "339"), Map.entry("pour", "39399"));

    private int number(String name, int place) {
        if (random.nextInt(100) == 0) {
            return random.nextBoolean() ? Integer.MAX_VALUE : Integer.MIN_VALUE;
        }
        if (random.nextInt(40) == 0) {
            return random.nextInt(300) - 1;
        }
        switch (name) {
            case "feed":
                return random.nextInt();
            case "sit":
                return random.nextInt(10000);
            case "tally":
                return place == 0 ? random.nextInt(10001) : place == 1 ? 1 + random.nextInt(30) : random.nextInt(3);
            case "court":
            case "plan":
                return random.nextInt(3) - 1;
            default:
                return likely(ROLES.get(name).charAt(place));
        }
    }

    private int likely(char role) {
        int many = switch (role) {
            case 'W' -> oracle.told(4);
            case 'Q' -> oracle.told(3);
            case 'S' -> 2 * oracle.told(3);
            case 'L' -> oracle.told(2);
            case 'V' -> oracle.told(1);
            case 'F' -> oracle.told(0);
            case 'H' -> oracle.told(6);
            case 'A' -> oracle.told(4) + 1;
            case 'K' -> 4;
            default -> role - '0' + 1;
        };
        int least = role == 'A' ? -1 : 0;
        int edge = random.nextInt(25);
        return edge == 0 ? least - 1 : edge == 1 ? least + many : least + upTo(many);
    }
}
