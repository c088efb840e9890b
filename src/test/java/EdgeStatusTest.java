import java.lang.reflect.Method;
import java.util.Arrays;
import java.util.function.ToLongFunction;

/** The edges of "==== 5.": the first status that holds, and that another one than 0 changes nothing. */
public final class EdgeStatusTest {
    private static final String CASE = "fact x has a 3 b;fact y has c d 2;never b d;question p fee 3 asks a;"
            + "question q fee 5 asks c;question r fee 7 asks a and c;question n fee 9 asks a and b;"
            + "witness w knows x may honest 12 turns 4;witness z may silent 16 hides p;";

    public static void main(String[] args) throws ReflectiveOperationException {
        numbersThatCantBe();
        firstThatHolds();
        changesNothing();
        fourthMark();
        textsWithFaults();
        withoutStatus();
        statusIsTheLatest();
        onlyTheTold();
        Court.end("EdgeStatusTest");
    }

    /** Something of each is there: trays, a case, answers heard, a plan, what was found, two marks, a tape. */
    private static AskingCourt busy() {
        AskingCourt x = Court.of(CASE);
        x.tray(0, 0, 3);
        x.write(0, 1, 77);
        x.tray(1, 0, 2);
        x.tray(2, 3, 60);
        x.mark();
        x.nextDay();
        x.shortest(0, 0);
        x.hear(0, 2, 4);
        x.hear(1, 0, 0);
        x.mark();
        Court.plan(x, "when left 1;ask w p;end;best w;next;rule q;");
        x.sit(17);
        x.chance(1);
        x.feed(0x6e657874, 0x3b202020, 0x20202020, 0x20202020, 0x20202020);
        return x;
    }

    private interface Call extends ToLongFunction<AskingCourt> {
    }

    private static void refuse(String name, int status, Call call) {
        AskingCourt x = busy();
        String ahead = State.of(x);
        Court.due(name + " answered", call.applyAsLong(x), -1);
        Court.due(name + ": status()", x.status(), status);
        Court.due(name + " changes nothing else", State.of(x).equals(ahead), true);
        Court.given(x, name + " leaves the marks", x.mark(), 3);
        Court.due(name + " leaves the tape", x.feed(0, 0, 0, 0, 0), 40);
        Court.given(x, name + " leaves what is on it", x.plan(5), 1);
    }

    private static long no(boolean answer) {
        return answer ? 1 : -1;
    }

    private static final int[] OUT = {-1, Integer.MIN_VALUE, Integer.MAX_VALUE, 1000};

    private static void numbersThatCantBe() {
        Sentences.terms("1 a number that can't be; no such TRAY, FACT, VALUE, WORLD, QUESTION, WITNESS, KIND.");
        String[][] calls = {{"tray", "4", "4", "61"}, {"told", "8"}, {"value", "4", "2"}, {"world", "4", "2"},
            {"possible", "4"}, {"holds", "4", "4"}, {"fee", "4"}, {"witness", "2", "6"}, {"answer", "2", "4", "4", "4"},
            {"hear", "2", "4", "8"}, {"isLeft", "4"}, {"fits", "2", "4", "4"}, {"sure", "4"}, {"chance", "4"},
            {"trust", "2", "4"}, {"because", "4"}, {"worst", "2", "4"}, {"best", "2"}, {"shortestFirst", "2"},
            {"sit", "10000"}, {"sat", "6"}, {"court", "21"}, {"plan", "21"}};
        for (String[] call : calls) {
            for (int i = 1; i < call.length; i++) {
                for (int out : OUT) {
                    refuseOut(call, i, call[0].equals("sit") && out == 1000 ? 10001 : out);
                }
                refuseOut(call, i, Integer.parseInt(call[i]));
            }
        }
        for (int out : OUT) {
            refuse("read of no tray", 1, x -> x.read(out, 0));
            refuse("write to no tray", 1, x -> no(x.write(out, 0, 1)));
            refuse("heard what", 1, x -> x.heard(0, out));
            refuse("shortest of no question", 1, x -> x.shortest(out, 0));
            refuse("shortest by none such", 1, x -> x.shortest(0, out == -1 ? -2 : out));
            refuse("tally of no seed", 1, x -> x.tally(out == 1000 ? 10000 : out, 1, 0));
            refuse("tally of so many", 1, x -> x.tally(0, out, 0));
            refuse("tally of no end", 1, x -> x.tally(0, 1, out));
        }
        refuse("shortest(4, 0)", 1, x -> x.shortest(4, 0));
        refuse("shortest(0, 2)", 1, x -> x.shortest(0, 2));
        refuse("heard(0, 4)", 1, x -> x.heard(0, 4));
        refuse("tally(0, 31, 0)", 1, x -> x.tally(0, 31, 0));
        refuse("tally(0, 0, 0)", 1, x -> x.tally(0, 0, 0));
        refuse("tally(0, 1, 3)", 1, x -> x.tally(0, 1, 3));
    }

    /** All arguments are 0 but for one. */
    private static void refuseOut(String[] call, int place, int out) {
        Class<?>[] types = new Class<?>[call.length - 1];
        Object[] numbers = new Object[types.length];
        Arrays.fill(types, int.class);
        Arrays.fill(numbers, 0);
        numbers[place - 1] = out;
        refuse(call[0] + Arrays.toString(numbers), 1, x -> {
            try {
                Method method = AskingCourt.class.getMethod(call[0], types);
                Object answer = method.invoke(x, numbers);
                return answer instanceof Boolean b ? no(b) : ((Integer) answer).longValue();
            } catch (ReflectiveOperationException e) {
                throw new IllegalStateException(e);
            }
        });
    }

    private static void firstThatHolds() {
        Sentences.terms("STATUS of a call is the first of these that holds");
        refuse("1 ahead of 3", 1, x -> x.read(4, -1));
        refuse("2 ahead of 3", 2, x -> x.read(3, -1));
        refuse("2 ahead of 3", 2, x -> no(x.write(3, 60, 1)));
        refuse("1 ahead of 7", 1, x -> x.answer(0, 0, 3, 4));
        refuse("1 ahead of 7", 1, x -> x.answer(0, 4, 3, 0));
        refuse("7", 7, x -> x.answer(0, 0, 3, 3));
        refuse("1 ahead of 7", 1, x -> x.fits(0, -1, 3));
        refuse("7", 7, x -> x.fits(1, 3, 3));
        refuse("1 ahead of 7", 1, x -> no(x.hear(0, 2, 8)));
        refuse("7", 7, x -> no(x.hear(0, 2, 7)));
        refuse("1 ahead of 6", 1, x -> x.heard(2, 4));
        refuse("6", 6, x -> x.heard(2, 3));
        refuse("6", 6, x -> x.heard(-1, 0));
        refuse("6", 6, x -> x.gave(2));
        refuse("6", 6, x -> x.gave(-1));
        refuse("1 ahead of 7", 1, x -> x.worst(2, 2));
        refuse("7", 7, x -> x.worst(1, 2));
        refuse("6", 6, x -> x.sure(1));
        refuse("6", 6, x -> x.because(1));
        refuse("6", 6, x -> x.clash());
        refuse("6", 6, x -> x.shortest(1, 1));
        Sentences.terms("2 the TRAY is MISSING. 3 a place that the TRAY has not, or too few numbers.");
        refuse("2", 2, x -> x.read(3, 0));
        refuse("3", 3, x -> x.read(0, 3));
        refuse("3", 3, x -> x.read(0, -1));
        refuse("3", 3, x -> no(x.write(0, 3, 1)));
        refuse("3", 3, x -> no(x.write(0, -1, 1)));
        refuse("3", 3, x -> no(x.write(1, Integer.MAX_VALUE, 1)));
        Sentences.promise(8, "(1: below 0, too; 2; 8; 3; asked in this order)");
        refuse("1 ahead of 2", 1, x -> no(x.pour(3, 0, 0, -1, 1)));
        refuse("1 ahead of 8", 1, x -> no(x.pour(0, 0, 2, 0, -1)));
        refuse("2 ahead of 8 and 3", 2, x -> no(x.pour(3, 0, 2, 70, 1)));
        refuse("2 ahead of 8 and 3", 2, x -> no(x.pour(0, 9, 3, 0, 1)));
        refuse("8 ahead of 3", 8, x -> no(x.pour(0, 9, 2, 0, 1)));
        refuse("8 with nothing to pour", 8, x -> no(x.pour(2, 0, 0, 0, 0)));
        refuse("3", 3, x -> no(x.pour(0, 0, 1, 0, 3)));
    }

    private static void changesNothing() {
        Sentences.terms("With another STATUS than 0 a call gives NONE, or false, and changes nothing else");
        AskingCourt y = busy();
        for (int day = 2; day <= 99; day++) {
            Court.given(y, "nextDay()", y.nextDay(), day);
        }
        String ahead = State.of(y);
        Court.refused(y, "above 99", y.nextDay(), 4);
        Court.due("nothing is changed", State.of(y), ahead);
        AskingCourt z = busy();
        z.hear(0, 3, 3);
        z.hear(0, 1, 7);
        Court.given(z, "left()", z.left(), 0);
        ahead = State.of(z);
        Court.refused(z, "chance(0)", z.chance(0), 6);
        Court.refused(z, "trust(0, 0)", z.trust(0, 0), 6);
        Court.refused(z, "shortest(0, -1)", z.shortest(0, -1), 6);
        Court.refused(z, "best(0)", z.best(0), 6);
        Court.refused(z, "liars()", z.liars(), 6);
        Court.refused(z, "6 ahead of 7", z.worst(0, 0), 6);
        Court.refused(z, "sure(0)", z.sure(0), 6);
        Court.refused(z, "because(0)", z.because(0), 6);
        Court.due("nothing is changed", State.of(z), ahead);
        AskingCourt u = new AskingCourt();
        ahead = State.of(u);
        Court.refused(u, "unsay()", u.unsay(), 6);
        Court.refused(u, "back()", u.back(), 6);
        Court.refused(u, "sit(0)", u.sit(0), 6);
        Court.refused(u, "tally(0, 1, 0)", u.tally(0, 1, 0), 6);
        Court.refused(u, "clash()", u.clash(), 6);
        Court.due("nothing is changed", State.of(u), ahead);
    }

    private static void fourthMark() {
        Sentences.terms("4 one too many.");
        AskingCourt x = busy();
        Court.given(x, "a third mark", x.mark(), 3);
        x.unsay();
        String ahead = State.of(x);
        Court.refused(x, "a fourth mark", x.mark(), 4);
        Court.due("nothing is changed", State.of(x), ahead);
        Court.given(x, "back()", x.back(), 2);
        Court.given(x, "told(6) as at the third", x.told(6), 2);
    }

    private static void textsWithFaults() {
        Sentences.terms("(but court(), plan() with 9 the tape, and what fault() tells)");
        String[][] texts = {{"court", "fact x has a b;question p fee 1 asks z;"}, {"court", "fact x has a;"},
            {"court", "fact x has m n o;witness u knows x may honest 1;"}, {"court", "?"}, {"plan", "ask w q;rule w;"},
            {"plan", "next;when left 1;next;"}, {"plan", "end;"}};
        for (String[] text : texts) {
            AskingCourt x = Court.of(CASE);
            x.hear(0, 2, 1);
            x.nextDay();
            Court.plan(x, "best w;next;rule q;");
            x.sit(5);
            x.mark();
            String ahead = withoutFault(x);
            Court.feed(x, text[1]);
            int n = text[1].length();
            Court.refused(x, text[1], text[0].equals("court") ? x.court(n) : x.plan(n), 9);
            Court.due(text[1] + ": the tape is empty", x.feed(0, 0, 0, 0, 0), 20);
            Court.due(text[1] + ": fault(0)", x.fault(0) > 0, true);
            Court.due(text[1] + ": fault(1)", x.fault(1) >= 0, true);
            Court.due(text[1] + ": all else is as it was", withoutFault(x), ahead);
            Court.given(x, "back()", x.back(), 0);
            Court.due(text[1] + ": and behind the mark", withoutFault(x), ahead);
        }
    }

    private static String withoutFault(AskingCourt x) {
        return State.of(x).replaceFirst("fault [^\n]*\n", "");
    }

    private static void withoutStatus() {
        Sentences.terms("status(), top(), bottom(), feed(), fault() have none.");
        AskingCourt x = Court.of(CASE);
        for (int status : new int[] {1, 6, 7, 0}) {
            int answer = status == 1 ? x.fee(9) : status == 6 ? x.back() : status == 7 ? x.answer(0, 0, 3, 0) : x.fee(3);
            Court.due("an answer", answer, status == 0 ? 9 : -1);
            for (int i = 0; i < 3; i++) {
                Court.due("status()", x.status(), status);
                Court.due("top()", x.top(), 0);
                Court.due("status() behind top()", x.status(), status);
                Court.due("bottom()", x.bottom(), 1);
                Court.due("status() behind bottom()", x.status(), status);
                Court.due("fault(7)", x.fault(7), -1);
                Court.due("status() behind fault()", x.status(), status);
            }
            x.feed(0, 0, 0, 0, 0);
            Court.due("status() behind feed()", x.status(), status);
        }
        x.fee(9);
        for (int i = 0; i < 50; i++) {
            x.feed(0, 0, 0, 0, 0);
        }
        Court.due("feed() gives NONE", x.feed(0, 0, 0, 0, 0), -1);
        Court.due("status() behind it", x.status(), 1);
    }

    private static void statusIsTheLatest() {
        Sentences.promise(2, "STATUS of the latest call that has one.");
        AskingCourt x = new AskingCourt();
        Court.due("of none", x.status(), 0);
        Court.refused(x, "read(0, 0)", x.read(0, 0), 2);
        Court.given(x, "tray(0, 3, 1)", x.tray(0, 3, 1));
        Court.refused(x, "read(0, 1)", x.read(0, 1), 3);
        Court.given(x, "left()", x.left(), 1);
        Court.refused(x, "unsay()", x.unsay(), 6);
        Court.given(x, "write(0, 0, -1)", x.write(0, 0, -1));
        Court.refused(x, "told(9)", x.told(9), 1);
        Court.given(x, "read(0, 0): -1 is no NONE", x.read(0, 0), -1);
    }

    /** The fraction, the fault, sat() and shortestFirst() are of the latest call that told them. */
    private static void onlyTheTold() {
        Sentences.promise(3, "The top of the FRACTION told latest.");
        AskingCourt x = Court.of(CASE);
        Court.due("top()", x.top(), 0);
        x.chance(0);
        String ahead = x.top() + "/" + x.bottom();
        Court.due("chance(0)", ahead, "9/10");
        x.chance(4);
        x.trust(0, 4);
        Court.due("not told", x.top() + "/" + x.bottom(), ahead);
        x.mark();
        x.trust(0, 1);
        Court.due("trust(0, 1)", x.top() + "/" + x.bottom(), "1/4");
        x.back();
        x.sure(0);
        Court.court(x, "");
        Court.due("it stays", x.top() + "/" + x.bottom(), "1/4");
    }
}
