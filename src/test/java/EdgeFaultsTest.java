import java.util.ArrayList;
import java.util.List;

/** The edges of FAULTS: each at its token, the first along the text, of one token the least kind. */
public final class EdgeFaultsTest {
    private static final String CASE = "fact a has b 2 c ; fact d has e f ; never b e ; "
            + "question q fee 3 asks not ( b or e ) and f ; question r fee 0 asks c ; "
            + "witness w knows a d may honest 9 turns 7 hides q r ; witness v may silent 16 ;";
    private static final String PLAN = "ask w q ; best v ; next ; when sure q ; when left 256 ; "
            + "when yes r ; rule r ; end ; end ; when no q ; end ; end ; rule q ;";
    /** One of each sort of token, and numbers about each bound. */
    private static final List<String> ALL = List.of("fact", "has", "never", "question", "fee", "asks", "witness",
            "knows", "may", "hides", "or", "and", "not", "honest", "turns", "other", "silent", "ask", "best", "next",
            "rule", "when", "sure", "yes", "no", "left", "end", "a", "b", "c", "d", "e", "f", "q", "r", "w", "v", "z",
            "abcdefgh", "abcdefghi", ";", "(", ")", "0", "1", "7", "9", "10", "16", "17", "99", "100", "256", "257",
            "9999", "10000", "?", "");

    public static void main(String[] args) throws ReflectiveOperationException {
        textsThatEnd();
        noToken();
        whatCantStand();
        order();
        atTheTokenBehind();
        leastKind();
        plans();
        eachTokenBehindEach(CASE, "court");
        eachTokenBehindEach(PLAN, "plan");
        eachTokenBehindEach("fact a has b c ; fact d has e f ; fact g has h i ; fact j has k l ; witness w may honest "
                + "1 turns 5 other 9 silent 1 ; question q fee 0 asks ( not ( not ( not b or c ) ) ) ;", "court");
        Court.end("EdgeFaultsTest");
    }

    /** The text's first so many tokens. */
    private static List<String> starts(String text) {
        List<String> starts = new ArrayList<>();
        String start = "";
        for (String token : text.split(" ")) {
            starts.add(start);
            start += token + " ";
        }
        starts.add(start);
        return starts;
    }

    private static boolean isWhole(String start) {
        return start.isEmpty() || start.endsWith("; ");
    }

    private static void textsThatEnd() {
        Sentences.terms("2 it can't stand there (the end: the text's length;");
        for (String start : starts(CASE)) {
            if (!isWhole(start)) {
                Court.fault(2, start.trim(), "");
                Court.fault(2, start, "");
                Court.fault(2, start + " \n ", "");
            } else {
                AskingCourt x = new AskingCourt();
                Court.due(start + " is a case", Court.court(x, start.trim()) >= 0, true);
            }
        }
        Court.fault(2, "fact a has b c", "");
        Court.fault(2, "fact", "");
    }

    private static void noToken() {
        Sentences.terms("1 no TOKEN begins so (a NUMBER of 5 digits and more: at its first).");
        for (String start : starts(CASE)) {
            Court.fault(1, start, "?");
            Court.fault(1, start, "\u00e4");
            Court.fault(1, start, "01234");
            Court.fault(1, start, "A");
        }
    }

    private static void whatCantStand() {
        Sentences.terms("2 it can't stand there");
        for (String start : starts(CASE)) {
            Court.fault(2, start, "abcdefghi");
            Court.fault(2, start, "ask w q;");
            Court.fault(2, start, "end;");
            if (isWhole(start)) {
                Court.fault(2, start, "z;");
                Court.fault(2, start, "0");
                Court.fault(2, start, ";");
                Court.fault(2, start, "(");
                Court.fault(2, start, "has");
            }
        }
    }

    private static void order() {
        Sentences.terms("7 a fact, never behind a question (at its WORD)");
        String asked = "fact a has b c;fact d has e f;question q fee 1 asks b;";
        Court.fault(7, asked, "fact g has h i;");
        Court.fault(7, asked, "fact");
        Court.fault(7, asked, "never b e;");
        Court.fault(7, asked, "never");
        Court.fault(7, asked + "witness w may honest 16;", "fact g has h i;");
        Court.good("witness w may honest 16;fact a has b c;witness v knows a may honest 16;fact d has e f;never b e;"
                + "question q fee 1 asks b;witness u may honest 16 hides q;question r fee 1 asks c;", 3);
        Sentences.terms("FAULTS, the first along the text (of one TOKEN the least kind)");
        Court.fault(6, "fact a has b c;fact d has e f;fact g has h i;fact j has k l;question q fee 1 asks b;", "fact b ?");
        Court.fault(4, "fact a has b ", "0 b a 10000 !");
        Court.fault(3, "fact a has ", "a ?");
        Court.fault(8, "fact a has b", "; ?");
        Court.fault(1, "fact a has b", "? ;");
    }

    private static void atTheTokenBehind() {
        Sentences.terms("8 a FACT of one VALUE, one with which there are more than 256 WORLDS, KINDS that are not 16"
                + " together (each at the TOKEN behind the last one of these).");
        Court.fault(8, "fact a has b", ";");
        Court.fault(8, "fact a has b \n", ";");
        Court.fault(8, "fact a has b 9", ";");
        Court.fault(8, "fact a has b 9 \n ", ";");
        String three = "fact a has b c d e f g;fact h has i j k l m n;fact o has p q r s t u;";
        Court.fault(8, three + "fact v has w x", ";");
        Court.fault(8, three + "fact v has w x 3 ", ";");
        Court.fault(8, "witness w may honest 7 other 8 ", ";");
        Court.fault(8, "witness w may honest 9 other 8 ", ";");
        Court.fault(8, "witness w may honest 9 other 8 ", "hides z;");
    }

    /** What is 8 by what stands ahead may be 1 or 2 by itself. */
    private static void leastKind() {
        Sentences.terms("(of one TOKEN the least kind)");
        for (String at : new String[] {"", "(", ")", "never", "fact", "has", "abcdefghi"}) {
            Court.fault(2, "fact a has b ", at);
            Court.fault(2, "fact a has b 1 ", at);
        }
        Court.fault(1, "fact a has b ", "99999");
        Court.fault(2, "fact a has b 1 ", "1;");
        for (String at : new String[] {"", "(", "1", "knows", "may", "w", "abcdefghi"}) {
            Court.fault(2, "witness w may honest 15 ", at);
        }
        Court.fault(1, "witness w may honest 15 ", "99999");
        Court.fault(5, "witness w may honest 16 turns 16 ", "turns 16;");
        Court.fault(2, "fact a has b c;never b ", ";");
        Court.fault(3, "fact a has b c d e f g ", "a;");
        Court.fault(2, "fact a has b c d e f g ", "and;");
    }

    private static void planFault(int kind, String ahead, String at) {
        AskingCourt x = Court.of(CASE);
        Court.refused(x, ahead + at, Court.plan(x, ahead + at), 9);
        Court.due(ahead + at + ": fault(0)", x.fault(0), kind);
        Court.due(ahead + at + ": fault(1)", x.fault(1), ahead.length());
    }

    private static void plans() {
        Sentences.terms("(an end without a when; the text's end ahead of an end: 2)");
        for (String start : starts(PLAN)) {
            planFault(1, start, "?");
            planFault(1, start, "00256");
            planFault(2, start, "abcdefghi");
            planFault(2, start, "fact");
            int open = start.split("when ").length - start.split("end ").length;
            if (isWhole(start) && open == 3) {
                planFault(7, start, "when no q;end;");
            }
            if (isWhole(start) && open == 0) {
                AskingCourt x = Court.of(CASE);
                Court.due(start + " is a plan", Court.plan(x, start.trim()) >= 0, true);
                planFault(2, start, "end ;");
            } else {
                planFault(2, start, "");
                planFault(2, start.trim(), "");
            }
        }
        planFault(2, "", "end;");
        planFault(2, "next;", "end;");
        planFault(2, "when left 1;end;", "end;");
        planFault(2, "when left 1;next;", "");
        planFault(2, "when left 1;when sure q;end;", "");
        planFault(2, "when left 1;next;end", "");
        planFault(2, "when left 1;next;end ", "end;");
        Sentences.terms("6 a 31st STEP (at its WORD; end is none). 7 a when within three others (at its WORD).");
        String ten = "when left 9;when left 9;when left 9;next;next;next;next;end;end;end;next;next;next;";
        planFault(6, ten + ten + ten, "next;");
        planFault(6, ten + ten + ten, "when");
        planFault(6, ten + ten + "next;next;next;next;next;next;next;when yes q;when yes q;when yes q;", "when yes q;");
        planFault(7, ten + ten + "next;next;next;next;next;next;when yes q;when yes q;when yes q;", "when yes q;");
        planFault(2, ten + ten + ten, "end;");
        planFault(2, ten + ten + ten, "fact;");
    }

    /** The text up to each token, and behind it any one: as the Oracle says. */
    private static void eachTokenBehindEach(String text, String reader) throws ReflectiveOperationException {
        Sentences.terms(reader.equals("court") ? "between them blanks (10, 32): WORDS" : "of such TOKENS (none at first)");
        AskingCourt x = Court.of(CASE);
        Oracle due = new Oracle();
        read(due, "court", CASE);
        for (String start : starts(text)) {
            for (String token : ALL) {
                String whole = start + token;
                long got = read(x, reader, whole);
                Court.due(whole, got, read(due, reader, whole));
                Court.due(whole + ": fault(0)", x.fault(0), due.fault(0));
                Court.due(whole + ": fault(1)", x.fault(1), due.fault(1));
                if (got >= 0 && reader.equals("court")) {
                    read(x, "court", CASE);
                    read(due, "court", CASE);
                }
            }
        }
    }

    private static int read(Object court, String reader, String text) throws ReflectiveOperationException {
        Class<?>[] five = {int.class, int.class, int.class, int.class, int.class};
        java.lang.reflect.Method feed = court.getClass().getMethod("feed", five);
        for (int i = 0; i < text.length(); i += 20) {
            Object[] numbers = new Object[5];
            for (int j = 0; j < 5; j++) {
                int number = 0;
                for (int k = i + 4 * j; k < i + 4 * j + 4; k++) {
                    number = number << 8 | (k < text.length() ? text.charAt(k) : 0);
                }
                numbers[j] = number;
            }
            feed.invoke(court, numbers);
        }
        return (int) court.getClass().getMethod(reader, int.class).invoke(court, text.length());
    }
}
