import java.util.List;

/** The edges that "Terms" names: trays, texts, tokens, names, how many there may be, faults. */
public final class EdgeTermsTest {
    private static final List<String> WORDS = List.of("fact", "has", "never", "question", "fee", "asks", "witness",
            "knows", "may", "hides", "or", "and", "not", "honest", "turns", "other", "silent", "ask", "best", "next",
            "rule", "when", "sure", "yes", "no", "left", "end");
    private static final String TWO = "fact a has b c;";
    private static final String FOUR = TWO + "fact d has e f;fact g has h i;fact j has k l;";
    private static final String ASKED = TWO + "question q fee 1 asks b;";

    public static void main(String[] args) {
        trays();
        trayNumbers();
        longestText();
        parts();
        blanks();
        signs();
        asLongAsTheyGo();
        numbers();
        lengthsOfNames();
        wordsThatAreNoNames();
        oneThingAlone();
        facts();
        weights();
        numbersOfWorlds();
        nevers();
        questions();
        eithers();
        onlyPossible();
        witnesses();
        sixteenths();
        toldAhead();
        numbersThatCantBe();
        inPlaceOfThatAhead();
        Court.end("EdgeTermsTest");
    }

    private static void trays() {
        Sentences.terms("TRAYS 0 to 3 are MISSING at first, or rows of 0 to 60 numbers");
        AskingCourt x = new AskingCourt();
        for (int t = 0; t < 4; t++) {
            Court.refused(x, "read(" + t + ", 0)", x.read(t, 0), 2);
            for (int sort = 0; sort < 4; sort++) {
                Court.given(x, "tray of 0", x.tray(t, sort, 0));
                Court.refused(x, "read(" + t + ", 0)", x.read(t, 0), 3);
                Court.given(x, "tray of 60", x.tray(t, sort, 60));
                Court.given(x, "read(" + t + ", 59)", x.read(t, 59), 0);
                Court.refused(x, "read(" + t + ", 60)", x.read(t, 60), 3);
                Court.refused(x, "tray of 61", x.tray(t, sort, 61), 1);
                Court.refused(x, "tray of -1", x.tray(t, sort, -1), 1);
                Court.given(x, "read(" + t + ", 59)", x.read(t, 59), 0);
            }
        }
        Court.refused(x, "tray -1", x.tray(-1, 0, 1), 1);
        Court.refused(x, "tray 4", x.tray(4, 0, 1), 1);
    }

    private static void trayNumbers() {
        Sentences.terms("numbers of 8 bits (sort 0), 16 (1), 32 (2) or 64 (3)");
        AskingCourt x = new AskingCourt();
        for (int sort = 0; sort < 4; sort++) {
            int bits = 8 << sort;
            long most = Long.MAX_VALUE >> 64 - bits;
            x.tray(sort, sort, 2);
            long[][] pairs = {{most, most}, {most + 1, -most - 1}, {-most - 1, -most - 1}, {-most - 2, most}, {-1, -1},
                {0, 0}, {Long.MAX_VALUE, sort < 3 ? -1 : Long.MAX_VALUE}, {Long.MIN_VALUE, sort < 3 ? 0 : Long.MIN_VALUE}};
            for (long[] pair : pairs) {
                Court.given(x, "write(" + sort + ", 1, " + pair[0] + ")", x.write(sort, 1, pair[0]));
                Court.given(x, "read(" + sort + ", 1)", x.read(sort, 1), pair[1]);
                Court.given(x, "read(" + sort + ", 0)", x.read(sort, 0), 0);
            }
        }
        Court.refused(x, "sort -1", x.tray(0, -1, 1), 1);
        Court.refused(x, "sort 4", x.tray(0, 4, 1), 1);
    }

    private static void longestText() {
        Sentences.terms("A CASE is a TEXT of at most 900 bytes.");
        String head = "fact a has b c ";
        Court.good(head + " ".repeat(884) + ";", 2);
        Court.fault(2, head + " ".repeat(884), ")");
        Court.fault(2, head + " ".repeat(884) + "d", "");
        Court.fault(2, head + " ".repeat(885), "");
        AskingCourt x = new AskingCourt();
        Court.feed(x, head + " ".repeat(884) + ";");
        Court.due("a byte more does not come to the tape", x.feed(0, 0, 0, 0, 0), -1);
        Court.refused(x, "court(901)", x.court(901), 1);
        Court.given(x, "court(900)", x.court(900), 2);
        Court.good("", 1);
    }

    private static void parts() {
        Sentences.terms("CASE: {PART}. PART: fact NAME has NAME [NUMBER] {NAME [NUMBER]} ; or never NAME NAME ; or question"
                + " NAME fee NUMBER asks EITHER ; or witness NAME [knows NAME {NAME}] may KIND NUMBER {KIND NUMBER} [hides"
                + " NAME {NAME}] ;");
        Court.good("", 1);
        Court.good("fact a has b 1 c;", 2);
        Court.good("fact a has b c 1 d 2 e;", 4);
        Court.good(TWO + "fact d has e f;never b e;", 3);
        Court.good(ASKED, 2);
        Court.good("witness w may silent 16;", 1);
        Court.good("witness w may silent 4 turns 4 honest 4 other 4;", 1);
        Court.good(FOUR + "witness w knows j may silent 16;", 16);
        Court.good(FOUR + "witness w knows g a j d may silent 15 turns 1;", 16);
        Court.good(ASKED + "question r fee 1 asks b;witness w may honest 16 hides r;", 2);
        Court.good(ASKED + "question r fee 1 asks b;witness w knows a may honest 1 other 15 hides r q;", 2);
        Sentences.terms("({ } any number of times, [ ] perhaps.)");
        Court.fault(2, "fact a", ";");
        Court.fault(2, "fact a has", ";");
        Court.fault(2, "fact a has ", "1 b c;");
        Court.fault(2, TWO + "fact d has e f;never b", ";");
        Court.fault(2, TWO + "fact d has e f;never b e ", "c;");
        Court.fault(2, TWO + "question q ", "asks b;");
        Court.fault(2, TWO + "question q fee ", "asks b;");
        Court.fault(2, TWO + "question q fee 1", ";");
        Court.fault(2, TWO + "question q fee 1 asks", ";");
        Court.fault(2, TWO + "question q fee 1 asks b ", "c;");
        Court.fault(2, TWO + "witness w knows ", "may honest 16;");
        Court.fault(2, TWO + "witness w knows a", ";");
        Court.fault(2, "witness w", ";");
        Court.fault(2, "witness w ", "hides q may honest 16;");
        Court.fault(2, ASKED + "witness w may honest 16 hides", ";");
        Court.fault(2, ASKED + "witness w may honest 16 hides q ", "knows a;");
        Court.fault(2, TWO + "witness w may honest 16 ", "knows a;");
        Court.fault(2, "witness w may ", "16;");
        Court.fault(2, "witness w may honest", ";");
        Court.fault(2, "witness w may honest 16 turns", ";");
    }

    private static void blanks() {
        Sentences.terms("between them blanks (10, 32)");
        Court.good("\n \nfact\na \n has  b\nc\n;\n ", 2);
        Court.good("fact a has b c;witness w may honest 16;", 2);
        for (char c : new char[] {0, 9, 11, 12, 13, 31, 33, 160}) {
            Court.fault(1, "", c + "fact a has b c;");
            Court.fault(1, "fact", c + "a has b c;");
            Court.fault(1, TWO, "" + c);
        }
    }

    private static void signs() {
        Sentences.terms("WORDS (small letters), NUMBERS (1 to 4 digits), the SIGNS ; ( )");
        for (int c = 0; c < 256; c++) {
            String sign = String.valueOf((char) c);
            boolean letter = c >= 'a' && c <= 'z';
            boolean digit = c >= '0' && c <= '9';
            if (c == 10 || c == 32) {
                Court.good(TWO + sign, 2);
            } else {
                Court.fault(letter || digit || ";()".contains(sign) ? 2 : 1, TWO, sign);
            }
            if (letter) {
                Court.good("fact " + sign + " has bb cc;", 2);
            }
        }
    }

    private static void asLongAsTheyGo() {
        Sentences.terms("TOKENS, as long as they go");
        Court.fault(2, "", "facta has b c;");
        Court.fault(2, "fact a ", "hasb c;");
        Court.fault(2, "fact a ", "ha s b c;");
        Court.good("fact a has b1c2;", 2);
        Court.good("fact a has bc d;", 2);
        Court.fault(8, "fact a has bc", ";");
        Court.fault(4, "fact a has b ", "12c;");
        Court.fault(2, "fact a has b 1 ", "2 c;");
        Court.good("fact a has b c;question q fee 1asks(b)or(not(c));", 2);
    }

    private static void numbers() {
        Sentences.terms("(a NUMBER of 5 digits and more: at its first)");
        Court.fault(4, "fact a has b ", "9999 c;");
        Court.fault(1, "fact a has b ", "10000 c;");
        Court.fault(1, "fact a has b ", "00001 c;");
        Court.fault(1, "fact a has b ", "123456789012345678901234567890 c;");
        Court.good("fact a has b 1 c 01 d 001 e 0001;", 4);
        Court.fault(4, "fact a has b ", "0 c;");
        Court.fault(4, "fact a has b ", "0000 c;");
    }

    private static void lengthsOfNames() {
        Sentences.terms("NAME: a WORD of 1 to 8 letters");
        Court.good("fact abcdefgh has stuvwxyz z;", 2);
        Court.good("fact a has stuvwxyy stuvwxyz stuvwxy;", 3);
        Court.good("fact zzzzzzzz has aaaaaaaa z;", 2);
        Court.fault(3, "fact a has stuvwxyz ", "stuvwxyz;");
        Sentences.terms("a WORD of 9 letters and more where a NAME must stand");
        Court.fault(2, "fact ", "abcdefghi has b c;");
        Court.fault(2, "fact a has stuvwxyz ", "stuvwxyzz;");
        Court.fault(2, "fact a has stuvwxyz c;fact d has e f;never ", "stuvwxyzz e;");
        Court.fault(2, "fact a has stuvwxyz c;question q fee 1 asks ", "stuvwxyzz;");
        Court.fault(2, TWO + "question ", "stuvwxyzz fee 1 asks b;");
        Court.fault(2, "witness ", "stuvwxyzz may honest 16;");
        Court.fault(2, TWO + "witness w knows ", "stuvwxyzz may honest 16;");
        Court.fault(2, ASKED + "witness w may honest 16 hides ", "stuvwxyzz;");
        Court.fault(2, "fact ", "z".repeat(800));
        Court.fault(2, "", "stuvwxyzz a has b c;");
    }

    private static void wordsThatAreNoNames() {
        Sentences.terms("that is none of fact, has, never, question, fee, asks, witness, knows, may, hides, or, and, not,"
                + " honest, turns, other, silent, ask, best, next, rule, when, sure, yes, no, left, end.");
        for (String word : WORDS) {
            Court.fault(2, "fact ", word + " has b c;");
            Court.fault(2, "fact a has ", word + " c;");
            Court.fault(2, "fact a has b ", word + " c;");
            Court.fault(2, TWO + "question ", word + " fee 1 asks b;");
            Court.fault(2, "witness ", word + " may honest 16;");
            Court.fault(2, TWO + "fact d has e f;never ", word + " e;");
            Court.fault(2, ASKED + "witness w may honest 16 hides ", word + ";");
            for (String name : List.of(word + "x", "x" + word, word.substring(1), word.substring(0, word.length() - 1))) {
                if (name.length() <= 8 && !WORDS.contains(name)) {
                    Court.good("fact " + name + " has bb cc;", 2);
                }
            }
        }
    }

    private static void oneThingAlone() {
        Sentences.terms("3 a new NAME that is taken;");
        Court.fault(3, TWO + "fact ", "b has d e;");
        Court.fault(3, "fact a has b ", "b");
        Court.fault(3, TWO + "question ", "a");
        Court.fault(3, "witness w may honest 16;witness ", "w ?");
        Sentences.terms("One NAME is of one thing alone.");
        String all = "witness w may honest 16;fact a has b c;question q fee 1 asks b;";
        for (String name : List.of("w", "a", "b", "c", "q")) {
            Court.fault(3, all + "question ", name + " fee 1 asks b;");
            Court.fault(3, all + "witness ", name + " may honest 16;");
        }
        String some = "witness w may honest 16;fact a has b c;";
        for (String name : List.of("w", "a", "b", "c")) {
            Court.fault(3, some + "fact ", name + " has e f;");
            Court.fault(3, some + "fact d has ", name + " f;");
            Court.fault(3, some + "fact d has e ", name + ";");
        }
        Court.fault(3, "fact a has ", "a b;");
        Court.fault(3, "fact a has b 1 ", "b 1;");
        Court.good(all + "question r fee 1 asks b;witness v may honest 16;", 2);
    }

    private static void facts() {
        Sentences.terms("FACTS, at most 4, have 2 to 6 VALUES each");
        Court.good(FOUR, 16);
        Court.fault(8, "fact a has b", ";");
        Court.good("fact a has b c;", 2);
        Court.good("fact a has b c d e f g;", 6);
        Court.fault(6, "fact a has b c d e f g ", "h;");
        Sentences.terms("6 one more than there may be of these (at its WORD); a seventh VALUE (at it).");
        Court.fault(6, FOUR, "fact m has n o;");
        Court.fault(6, FOUR, "fact");
        Court.fault(6, "fact a has b 1 c 2 d 3 e 4 f 5 g 6 ", "h 7 i 8;");
        Court.fault(3, "fact a has b c d e f g ", "b;");
        Court.fault(2, "fact a has b c d e f g ", "hhhhhhhhh;");
    }

    private static void weights() {
        Sentences.terms("with a weight (1 to 9; 1 without)");
        AskingCourt x = Court.of("fact a has b 1 c 9 d;");
        int[] due = {1, 9, 1};
        for (int v = 0; v < 3; v++) {
            Court.given(x, "value(" + v + ", 1)", x.value(v, 1), due[v]);
        }
        Court.fault(4, "fact a has b ", "0 c;");
        Court.fault(4, "fact a has b ", "10 c;");
        Court.fault(4, "fact a has b c ", "10;");
    }

    private static void numbersOfWorlds() {
        Sentences.terms("at most 256 of them, numbered: the first FACT's VALUE the slowest, VALUES in order");
        Court.good("fact a has b c d e;fact f has g h i j;fact k has l m n o;fact p has q r s t;", 256);
        String five = "fact a has b c d e f;fact g has h i j k l;fact m has n o p q r;";
        Court.good(five + "fact s has t u;", 250);
        Court.fault(8, five + "fact s has t u v", ";");
        Court.fault(8, "fact a has b c d e f g;fact h has i j k l m;fact n has o p q;fact r has s t u", ";");
        Court.good("fact a has b c d e f g;fact h has i j k l m n;fact o has p q r s t u;", 216);
        AskingCourt x = Court.of("fact a has b c;fact d has e f g;fact h has i j;");
        for (int w = 0; w < 12; w++) {
            Court.given(x, "world(" + w + ", 0)", x.world(w, 0), w / 6);
            Court.given(x, "world(" + w + ", 1)", x.world(w, 1), 2 + w / 2 % 3);
            Court.given(x, "world(" + w + ", 2)", x.world(w, 2), 5 + w % 2);
        }
        Court.refused(x, "world(12, 0)", x.world(12, 0), 1);
    }

    private static void nevers() {
        Sentences.terms("NEVER: two VALUES of unlike FACTS: WORLDS with both can't be; the others are POSSIBLE.");
        AskingCourt x = Court.of("fact a has b c;fact d has e f;fact g has h i;never i c;never e b;never e b;never b e;");
        int[] due = {0, 0, 1, 1, 1, 0, 1, 0};
        for (int w = 0; w < 8; w++) {
            Court.given(x, "possible(" + w + ")", x.possible(w), due[w]);
        }
        Court.good("fact a has b c;fact d has e f;never b e;never b f;never c e;never c f;", 0);
        Sentences.terms("5 never: two of one FACT (at the second)");
        Court.fault(5, TWO + "never b ", "c;");
        Court.fault(5, TWO + "never c ", "c;");
        Court.fault(5, TWO + "fact d has e f;never f ", "e;");
        Court.fault(3, TWO + "never b ", "a;");
    }

    private static void questions() {
        Sentences.terms("QUESTIONS, at most 12: a fee (0 to 99)");
        StringBuilder text = new StringBuilder(TWO);
        for (int q = 0; q < 12; q++) {
            text.append("question q").append((char) ('a' + q)).append(q % 2 == 0 ? " fee 0" : " fee 99").append(" asks b;");
        }
        AskingCourt x = Court.of(text.toString());
        Court.given(x, "told(3)", x.told(3), 12);
        Court.given(x, "fee(10)", x.fee(10), 0);
        Court.given(x, "fee(11)", x.fee(11), 99);
        Court.refused(x, "fee(12)", x.fee(12), 1);
        Court.fault(6, text.toString(), "question z fee 1 asks b;");
        Court.fault(6, text.toString(), "question");
        Court.fault(4, TWO + "question q fee ", "100 asks b;");
    }

    /** Worlds are numbered by the bits b c, d e, f g: 4, 2, 1. */
    private static void eithers() {
        Sentences.terms("EITHER: BOTH {or BOTH}. BOTH: ONE {and ONE}. ONE: not ONE, or ( EITHER ), or NAME.");
        eitherHas("b", 0b00001111);
        eitherHas("b or d and f", 0b00011111);
        eitherHas("f and d or b", 0b00011111);
        eitherHas("(b or d) and f", 0b00010101);
        eitherHas("not b and d", 0b00110000);
        eitherHas("not (b and d)", 0b11111100);
        eitherHas("not not b or not c", 0b00001111);
        eitherHas("not (b) or f", 0b11110101);
        eitherHas("b and d and f", 0b00000001);
        eitherHas("b or d or f", 0b01111111);
        eitherHas("b and c", 0);
        eitherHas("b or c", 255);
        eitherHas("((((((b))))))", 0b00001111);
        eitherHas("not(not(not(b)))", 0b11110000);
        eitherHas("((b) or (c)) and ((d))", 0b00110011);
        Sentences.terms("not, ( within six others (at the ONE's first TOKEN)");
        String head = ASKED + "question r fee 1 asks ";
        Court.fault(7, head + "((((((", "(b)))))));");
        Court.fault(7, head + "not not not not not not ", "not b;");
        Court.fault(7, head + "(not(not(not ", "(b))));");
        Court.fault(7, head + "b or (c and (((((b or ", "not b))))));");
        Court.good(head + "((((((b)))))) or not not not not not not c and (not(not(not b)));", 2);
    }

    private static void eitherHas(String either, int worlds) {
        AskingCourt x = Court.of("fact x has b c;fact y has d e;fact z has f g;question q fee 1 asks " + either + ";");
        for (int w = 0; w < 8; w++) {
            Court.given(x, either + ": holds(0, " + w + ")", x.holds(0, w), worlds >> w & 1);
        }
    }

    private static void onlyPossible() {
        Sentences.terms("the set of POSSIBLE WORLDS for which EITHER holds (a NAME: that VALUE)");
        AskingCourt x = Court.of("fact x has b c;fact y has d e;never b d;never c e;"
                + "question q fee 1 asks not b;question r fee 1 asks b or not b;question s fee 1 asks b and d;");
        int[][] due = {{0, 0, 1, 0}, {0, 1, 1, 0}, {0, 0, 0, 0}};
        for (int q = 0; q < 3; q++) {
            for (int w = 0; w < 4; w++) {
                Court.given(x, "holds(" + q + ", " + w + ")", x.holds(q, w), due[q][w]);
            }
        }
    }

    private static void witnesses() {
        Sentences.terms("WITNESSES, at most 4: FACTS that they know");
        StringBuilder text = new StringBuilder(FOUR);
        for (int v = 0; v < 4; v++) {
            text.append("witness w").append((char) ('a' + v)).append(v == 3 ? " knows j g d a" : "").append(" may silent 16;");
        }
        AskingCourt x = Court.of(text.toString());
        Court.given(x, "told(4)", x.told(4), 4);
        Court.given(x, "who knows nothing", x.witness(0, 4), 0);
        Court.given(x, "who knows all", x.witness(3, 4), 15);
        Court.fault(6, text.toString(), "witness z may silent 16;");
        Court.fault(6, text.toString(), "witness");
        Sentences.terms("a FACT again behind knows, a KIND again, a QUESTION again behind hides (at it)");
        Court.fault(5, FOUR + "witness w knows a d g j ", "a may honest 16;");
        Court.fault(5, FOUR + "witness w knows a ", "a may honest 16;");
        Court.fault(5, "witness w may honest 4 turns 4 other 4 silent 3 ", "honest 1;");
        Court.fault(5, "witness w may silent 16 ", "silent 16;");
        Court.fault(5, ASKED + "question r fee 1 asks c;witness w may honest 16 hides r q ", "r;");
    }

    private static void sixteenths() {
        Sentences.terms("KINDS that they may be with how many sixteenths (1 to 16 each, 16 together; honest 0, turns 1,"
                + " other 2, silent 3)");
        AskingCourt x = Court.of("witness a may silent 1 other 2 turns 3 honest 10;witness b may turns 16;"
                + "witness c may other 1 silent 15;witness d may turns 1 other 15;");
        int[][] due = {{10, 3, 2, 1}, {0, 16, 0, 0}, {0, 0, 1, 15}, {0, 1, 15, 0}};
        for (int v = 0; v < 4; v++) {
            for (int k = 0; k < 4; k++) {
                Court.given(x, "witness(" + v + ", " + k + ")", x.witness(v, k), due[v][k]);
            }
        }
        Court.fault(4, "witness w may honest ", "0 turns 16;");
        Court.fault(4, "witness w may honest ", "17;");
        Court.fault(2, "witness w may", ";");
        Sentences.terms("KINDS that are not 16 together (each at the TOKEN behind the last one of these)");
        Court.fault(8, "witness w may honest 15", ";");
        Court.fault(8, "witness w may honest 16 turns 1", ";");
        Court.fault(8, "witness w may honest 1 turns 1 other 1 silent 1", ";");
        Court.fault(8, ASKED + "witness w may honest 14 other 1 ", "hides q;");
        Court.fault(8, "witness w may honest 14 other 1 ", "hides q;");
    }

    private static void numbersThatCantBe() {
        Sentences.terms("4 a NUMBER that can't be.");
        String[] aheads = {"fact a has b ", TWO + "question q fee ", "witness w may honest "};
        int[] least = {1, 0, 1};
        int[] most = {9, 99, 16};
        for (int i = 0; i < 3; i++) {
            for (int number = 0; number < 300; number++) {
                boolean can = number >= least[i] && number <= most[i];
                Court.fault(can ? 2 : 4, aheads[i] + (can ? number + " " : ""), can ? ")" : String.valueOf(number));
            }
            Court.fault(4, aheads[i], "9999");
            Court.fault(1, aheads[i], "65537");
            Court.fault(1, aheads[i], "4294967297");
            Court.fault(1, aheads[i], "00000000000000000001");
        }
    }

    private static void inPlaceOfThatAhead() {
        Sentences.terms("A CASE that is taken is there in place of that ahead; nothing is heard then, it is day 0, no PLAN is"
                + " there.");
        AskingCourt x = Court.of(ASKED + "question r fee 1 asks b;witness w knows a may honest 16;");
        Court.plan(x, "next;");
        x.hear(0, 0, 2);
        x.nextDay();
        Court.given(x, "ahead", x.told(6), 1);
        Court.given(x, "ahead", x.sit(0), 2);
        for (String text : new String[] {ASKED + "witness w may honest 16;", "", ASKED + "witness w may honest 16;"}) {
            Court.given(x, text, Court.court(x, text), text.isEmpty() ? 1 : 2);
            int[] due = text.isEmpty() ? new int[] {0, 0, 1, 0, 0, 0, 0, 0} : new int[] {1, 2, 2, 1, 1, 0, 0, 0};
            for (int what = 0; what < 8; what++) {
                Court.given(x, "told(" + what + ")", x.told(what), due[what]);
            }
            Court.refused(x, "heard(0, 0)", x.heard(0, 0), 6);
            Court.refused(x, "unsay()", x.unsay(), 6);
            Court.refused(x, "sit(0)", x.sit(0), 6);
            Court.given(x, "left()", x.left(), due[2]);
            if (due[4] > 0) {
                Court.given(x, "it can be put again", x.hear(0, 0, 1));
                Court.given(x, "a plan again", Court.plan(x, "ask w q;"), 1);
            }
            x.nextDay();
        }
        Court.fault(3, "fact x has b c;question r fee 1 asks ", "a;");
    }

    private static void toldAhead() {
        Sentences.terms("what a PART names must be told ahead");
        Court.fault(3, TWO + "never b ", "e;fact d has e f;");
        Court.fault(3, TWO + "never ", "e b;fact d has e f;");
        Court.fault(3, TWO + "question q fee 1 asks ", "e;fact d has e f;");
        Court.fault(3, TWO + "question q fee 1 asks b or not (c and ", "q);");
        Court.fault(3, "witness w knows ", "a may honest 16;fact a has b c;");
        Court.fault(3, TWO + "witness w may honest 16 hides ", "q;question q fee 1 asks b;");
        Sentences.terms("a NAME that is no such thing told ahead");
        String all = ASKED + "witness w may honest 16;";
        for (String name : List.of("a", "q", "w", "v", "z")) {
            Court.fault(3, all + "question r fee 1 asks ", name + ";");
        }
        for (String name : List.of("b", "q", "w", "v", "z")) {
            Court.fault(3, all + "witness v knows ", name + " may honest 16;");
        }
        for (String name : List.of("a", "b", "w", "v", "z")) {
            Court.fault(3, all + "witness v may honest 16 hides ", name + ";");
        }
        for (String name : List.of("a", "d", "z")) {
            Court.fault(3, TWO + "fact d has e f;never ", name + " b;");
            Court.fault(3, TWO + "fact d has e f;never b ", name + ";");
        }
    }
}
