/** Promise by promise: what each one says of its edges. */
public final class EdgePromisesTest {
    private static final String SMALL = "fact x has a 2 b;fact y has c d 5;never b d;question p fee 3 asks a;"
            + "question q fee 5 asks c;question r fee 7 asks a and c;witness w knows x may honest 12 turns 4 hides r;"
            + "witness z may silent 16;";
    private static final String LARGE = large();

    public static void main(String[] args) {
        newObject();
        fractions();
        trays();
        writes();
        pours();
        feeds();
        courts();
        plans();
        faults();
        tolds();
        parts();
        largest();
        answers();
        hears();
        unsays();
        days();
        heards();
        lefts();
        fit();
        sures();
        chances();
        causes();
        putting();
        shortests();
        benches();
        sits();
        marks();
        Sentences.allPromises();
        Court.end("EdgePromisesTest");
    }

    /** 256 worlds, 16 values, 12 questions, 4 witnesses. */
    private static String large() {
        StringBuilder text = new StringBuilder();
        for (int f = 0; f < 4; f++) {
            text.append("fact f").append((char) ('a' + f)).append(" has");
            for (int v = 0; v < 4; v++) {
                text.append(" v").append((char) ('a' + 4 * f + v)).append(v == 3 ? " 9" : "");
            }
            text.append(";");
        }
        for (int q = 0; q < 12; q++) {
            text.append("question q").append((char) ('a' + q)).append(" fee ").append(9 * q).append(" asks v")
                    .append((char) ('p' - q)).append(";");
        }
        for (int w = 0; w < 4; w++) {
            text.append("witness w").append((char) ('a' + w)).append(" knows f").append((char) ('a' + w))
                    .append(" may honest 13 turns 1 other 1 silent 1;");
        }
        return text.toString();
    }

    private static void newObject() {
        Sentences.promise(1, "A CASE of no FACTS (one WORLD, which is POSSIBLE), QUESTIONS, WITNESSES; nothing HEARD, DAY 0,"
                + " no PLAN, MARKS; TRAYS are MISSING; an empty tape; the FRACTION 0 by 1; STATUS 0.");
        AskingCourt x = new AskingCourt();
        Court.due("status()", x.status(), 0);
        Court.due("top()", x.top(), 0);
        Court.due("bottom()", x.bottom(), 1);
        Court.due("fault(0)", x.fault(0), -1);
        Court.due("fault(1)", x.fault(1), -1);
        int[] told = {0, 0, 1, 0, 0, 0, 0, 0};
        for (int what = 0; what < 8; what++) {
            Court.given(x, "told(" + what + ")", x.told(what), told[what]);
        }
        Court.given(x, "possible(0)", x.possible(0), 1);
        Court.given(x, "isLeft(0)", x.isLeft(0), 1);
        Court.refused(x, "possible(1)", x.possible(1), 1);
        Court.refused(x, "isLeft(1)", x.isLeft(1), 1);
        Court.refused(x, "world(0, 0)", x.world(0, 0), 1);
        Court.refused(x, "value(0, 0)", x.value(0, 0), 1);
        Court.refused(x, "fee(0)", x.fee(0), 1);
        Court.refused(x, "holds(0, 0)", x.holds(0, 0), 1);
        Court.refused(x, "witness(0, 0)", x.witness(0, 0), 1);
        Court.refused(x, "answer(0, 0, 0, 0)", x.answer(0, 0, 0, 0), 1);
        Court.refused(x, "hear(0, 0, 0)", x.hear(0, 0, 0), 1);
        Court.refused(x, "fits(0, 0, 0)", x.fits(0, 0, 0), 1);
        Court.refused(x, "best(0)", x.best(0), 1);
        Court.refused(x, "shortest(0, -1)", x.shortest(0, -1), 1);
        Court.refused(x, "trust(0, 0)", x.trust(0, 0), 1);
        Court.refused(x, "chance(0)", x.chance(0), 1);
        Court.refused(x, "court(1)", x.court(1), 1);
        Court.refused(x, "plan(1)", x.plan(1), 1);
        Court.refused(x, "sit(0)", x.sit(0), 6);
        Court.refused(x, "sat(0)", x.sat(0), 6);
        Court.refused(x, "back()", x.back(), 6);
        Court.refused(x, "unsay()", x.unsay(), 6);
        Court.given(x, "nextDay()", x.nextDay(), 1);
        Court.given(x, "mark()", x.mark(), 1);
        Court.due("feed()", x.feed(0, 0, 0, 0, 0), 20);
        AskingCourt y = new AskingCourt();
        Court.due("another one is new", y.feed(0, 0, 0, 0, 0), 20);
        Court.given(y, "told(5)", y.told(5), 0);
    }

    private static void fractions() {
        Sentences.promise(2, "STATUS of the latest call that has one.");
        AskingCourt x = Court.of(SMALL);
        Court.refused(x, "fee(3)", x.fee(3), 1);
        Court.due("status() has none itself", x.status(), 1);
        Sentences.promise(3, "The top of the FRACTION told latest.");
        Court.given(x, "chance(1)", x.chance(1));
        Court.due("top()", x.top(), 3);
        Sentences.promise(4, "Its bottom, above 0.");
        Court.due("bottom()", x.bottom(), 13);
        Court.given(x, "trust(1, 0)", x.trust(1, 0));
        Court.due("top()", x.top(), 0);
        Court.due("bottom()", x.bottom(), 1);
    }

    private static void trays() {
        Sentences.promise(5, "A TRAY is a row of so many 0s (1).");
        AskingCourt x = new AskingCourt();
        for (int sort = 0; sort < 4; sort++) {
            for (int many = 60; many >= 0; many -= 20) {
                Court.given(x, "tray", x.tray(2, sort, many));
                for (int place = 0; place < many; place++) {
                    Court.given(x, "read", x.read(2, place), 0);
                    Court.given(x, "write", x.write(2, place, place + 1));
                }
                Court.refused(x, "read", x.read(2, many), 3);
            }
        }
        x.tray(2, 3, 2);
        x.write(2, 1, 9);
        Court.refused(x, "tray(2, 4, 1)", x.tray(2, 4, 1), 1);
        Court.refused(x, "tray(2, 3, 61)", x.tray(2, 3, 61), 1);
        Court.given(x, "it is as it was", x.read(2, 1), 9);
        Court.given(x, "the same again", x.tray(2, 3, 2));
        Court.given(x, "is a new one", x.read(2, 1), 0);
        Court.refused(x, "the others are missing", x.read(1, 0), 2);
        Court.refused(x, "the others are missing", x.read(3, 0), 2);
    }

    private static void writes() {
        Sentences.promise(6, "A number comes to a place of a TRAY, cut to its sort (1, 2, 3).");
        AskingCourt x = new AskingCourt();
        Court.refused(x, "write(4, 0, 1)", x.write(4, 0, 1), 1);
        Court.refused(x, "write(-1, 0, 1)", x.write(-1, 0, 1), 1);
        Court.refused(x, "write(0, 0, 1)", x.write(0, 0, 1), 2);
        x.tray(0, 0, 0);
        Court.refused(x, "write(0, 0, 1)", x.write(0, 0, 1), 3);
        x.tray(0, 0, 60);
        Court.refused(x, "write(0, -1, 1)", x.write(0, -1, 1), 3);
        Court.refused(x, "write(0, 60, 1)", x.write(0, 60, 1), 3);
        Court.given(x, "write(0, 59, 511)", x.write(0, 59, 511));
        Court.given(x, "write(0, 0, 257)", x.write(0, 0, 257));
        Sentences.promise(7, "The number in a place of a TRAY; STATUS tells NONE from -1 (1, 2, 3).");
        Court.given(x, "read(0, 59)", x.read(0, 59), -1);
        Court.given(x, "read(0, 0)", x.read(0, 0), 1);
        Court.given(x, "read(0, 58)", x.read(0, 58), 0);
        Court.refused(x, "read(0, 60)", x.read(0, 60), 3);
        Court.refused(x, "read(0, -1)", x.read(0, -1), 3);
        Court.refused(x, "read(1, 0)", x.read(1, 0), 2);
        Court.refused(x, "read(4, 0)", x.read(4, 0), 1);
        Court.refused(x, "read(-1, 0)", x.read(-1, 0), 1);
    }

    private static void row(AskingCourt x, int tray, long... due) {
        for (int place = 0; place < due.length; place++) {
            Court.given(x, "read(" + tray + ", " + place + ")", x.read(tray, place), due[place]);
        }
        Court.refused(x, "read(" + tray + ", " + due.length + ")", x.read(tray, due.length), 3);
    }

    private static void fill(AskingCourt x, int tray, int many) {
        for (int place = 0; place < many; place++) {
            x.write(tray, place, place + 1);
        }
    }

    private static void pours() {
        Sentences.promise(8, "So many numbers of a TRAY, from a place on, come to another one's (or its own) place on, as they"
                + " were");
        for (int sort = 0; sort < 4; sort++) {
            AskingCourt x = new AskingCourt();
            x.tray(0, sort, 5);
            x.tray(3, sort, 3);
            fill(x, 0, 5);
            Court.given(x, "its own, forwards", x.pour(0, 0, 0, 1, 4));
            row(x, 0, 1, 1, 2, 3, 4);
            Court.given(x, "its own, backwards", x.pour(0, 2, 0, 0, 3));
            row(x, 0, 2, 3, 4, 3, 4);
            Court.given(x, "onto itself", x.pour(0, 0, 0, 0, 5));
            row(x, 0, 2, 3, 4, 3, 4);
            Court.given(x, "to the end of another", x.pour(0, 3, 3, 1, 2));
            row(x, 3, 0, 3, 4);
            Court.given(x, "all of another", x.pour(3, 0, 0, 2, 3));
            row(x, 0, 2, 3, 0, 3, 4);
            Court.refused(x, "one too many to take", x.pour(0, 4, 3, 0, 2), 3);
            Court.refused(x, "one too many to put", x.pour(0, 0, 3, 2, 2), 3);
            Court.refused(x, "a place it has not", x.pour(0, 5, 3, 0, 1), 3);
            Court.refused(x, "a place the other has not", x.pour(0, 0, 3, 3, 1), 3);
            Court.refused(x, "far too many", x.pour(0, 1, 0, 1, Integer.MAX_VALUE), 3);
            Court.refused(x, "far away", x.pour(0, Integer.MAX_VALUE, 0, 0, 1), 3);
            Court.refused(x, "far away", x.pour(0, 0, 0, Integer.MAX_VALUE, 1), 3);
            Court.refused(x, "far away, by far too many", x.pour(0, Integer.MAX_VALUE, 0, 0, Integer.MAX_VALUE), 3);
            Court.given(x, "none at all", x.pour(0, 4, 3, 2, 0));
            row(x, 0, 2, 3, 0, 3, 4);
            row(x, 3, 0, 3, 4);
            x.tray(1, sort, 60);
            fill(x, 1, 60);
            x.tray(2, sort, 60);
            Court.given(x, "sixty", x.pour(1, 0, 2, 0, 60));
            Court.given(x, "the last", x.read(2, 59), 60);
            Court.refused(x, "sixty-one", x.pour(1, 0, 2, 0, 61), 3);
            x.tray(2, (sort + 1) % 4, 60);
            Court.refused(x, "unlike sorts", x.pour(1, 0, 2, 0, 1), 8);
            Court.refused(x, "unlike sorts", x.pour(2, 0, 1, 0, 1), 8);
        }
        Sentences.promise(8, "1: below 0, too; 2; 8; 3; asked in this order");
        AskingCourt y = new AskingCourt();
        int[][] below = {{-1, 0, 0, 0, 0}, {4, 0, 0, 0, 0}, {0, -1, 0, 0, 0}, {0, 0, -1, 0, 0}, {0, 0, 4, 0, 0},
            {0, 0, 0, -1, 0}, {0, 0, 0, 0, -1}};
        for (int[] one : below) {
            Court.refused(y, "1 ahead of 2", y.pour(one[0], one[1], one[2], one[3], one[4]), 1);
        }
        Court.refused(y, "2", y.pour(0, 0, 1, 0, 0), 2);
        y.tray(0, 0, 1);
        Court.refused(y, "the other is missing", y.pour(0, 0, 1, 0, 0), 2);
        Court.refused(y, "the one is missing", y.pour(1, 0, 0, 0, 0), 2);
    }

    private static void feeds() {
        Sentences.promise(9, "Twenty bytes come behind those on the tape, the highest of each int first: how many it has; NONE"
                + " if there would be more than 900.");
        AskingCourt x = new AskingCourt();
        Court.due("feed()", x.feed(0x66616374, 0x20612068, 0x61732062, 0x20632064, 0x20653b0a), 20);
        Court.given(x, "fact a has b c d e;", x.court(20), 4);
        for (int i = 1; i <= 44; i++) {
            Court.due("feed()", x.feed(0x20202020, 0x20202020, 0x20202020, 0x20202020, 0x20202020), 20 * i);
        }
        Court.due("the last twenty", x.feed(0x66616374, 0x20612068, 0x61732062, 0x20632064, 0x20653b0a), 900);
        Court.due("no more", x.feed(0x21212121, 0, 0, 0, 0), -1);
        Court.due("no more", x.feed(0, 0, 0, 0, 0), -1);
        Court.given(x, "all 900", x.court(900), 4);
        Court.due("it is empty then", x.feed(0xffffffff, 0x80000000, 0x7fffffff, 0, 0), 20);
        Court.refused(x, "255", x.court(1), 9);
        Court.due("fault(0)", x.fault(0), 1);
        Court.due("fault(1)", x.fault(1), 0);
    }

    private static void courts() {
        Sentences.promise(10, "The first n bytes of the tape (which is empty then) are the CASE: how many WORLDS are POSSIBLE"
                + " (1: n below 0, or more than the tape has, too; 9: the old one stays).");
        AskingCourt x = Court.of(SMALL);
        Court.feed(x, "fact a has b c;fact d has e f g;");
        Court.refused(x, "court(-1)", x.court(-1), 1);
        Court.refused(x, "the least", x.court(Integer.MIN_VALUE), 1);
        Court.refused(x, "one more than the tape has", x.court(41), 1);
        Court.refused(x, "the largest", x.court(Integer.MAX_VALUE), 1);
        Court.given(x, "the old one stays", x.told(3), 3);
        Court.given(x, "the first 15", x.court(15), 2);
        Court.given(x, "told(1)", x.told(1), 2);
        Court.refused(x, "it is empty then", x.court(1), 1);
        Court.feed(x, SMALL);
        Court.refused(x, "a text cut off", x.court(SMALL.length() - 1), 9);
        Court.given(x, "the old one stays", x.told(1), 2);
        Court.given(x, "left()", x.left(), 2);
        Court.refused(x, "it is empty then", x.court(1), 1);
        x.feed(0, 0, 0, 0, 0);
        Court.given(x, "none of them", x.court(0), 1);
        Court.given(x, "told(0)", x.told(0), 0);
        Court.refused(x, "it is empty then", x.court(1), 1);
        Court.given(x, "the largest case", Court.court(x, LARGE), 256);
        Court.given(x, "none possible", Court.court(x, "fact x has a b;fact y has c d;never a c;never a d;never b c;never b d;"), 0);
    }

    private static void plans() {
        Sentences.promise(11, "Likewise the PLAN: how many STEPS (1: above 300, too; 9).");
        AskingCourt x = Court.of(SMALL);
        Court.feed(x, "next;next;rule p;" + " ".repeat(343));
        Court.refused(x, "301", x.plan(301), 1);
        Court.refused(x, "360", x.plan(360), 1);
        Court.refused(x, "-1", x.plan(-1), 1);
        Court.refused(x, "361", x.plan(361), 1);
        Court.refused(x, "none of it is there", x.sit(0), 6);
        Court.given(x, "300", x.plan(300), 3);
        Court.refused(x, "the tape is empty then", x.plan(1), 1);
        Court.refused(x, "a fault", Court.plan(x, "next;next;rule p"), 9);
        Court.given(x, "the old one stays", x.sat(0) == -1 && x.sit(0) >= 0 ? x.sat(2) : -1, 2);
        Court.given(x, "the first ten", cut(x, "next;next;rule w", 10), 2);
        Court.given(x, "none of them", cut(x, "next;next;rule w", 0), 0);
    }

    private static int cut(AskingCourt x, String text, int n) {
        Court.feed(x, text);
        return x.plan(n);
    }

    private static void faults() {
        Sentences.promise(12, "Of the latest court() or plan() with STATUS 0 or 9, what 0: the FAULT (0 without one), 1: its"
                + " place (NONE without). NONE for others, and ahead of any.");
        AskingCourt x = new AskingCourt();
        for (int what = -1; what < 3; what++) {
            Court.due("ahead of any", x.fault(what), -1);
        }
        x.court(1);
        x.plan(1);
        Court.due("1 is not counted", x.fault(0), -1);
        Court.court(x, "fact x has a;");
        told(x, 8, 12);
        x.court(-1);
        x.plan(301);
        told(x, 8, 12);
        Court.plan(x, "next;");
        told(x, 0, -1);
        Court.plan(x, "next;end;");
        told(x, 2, 5);
        x.plan(21);
        told(x, 2, 5);
        Court.court(x, "?");
        told(x, 1, 0);
        Court.court(x, "");
        told(x, 0, -1);
        Court.plan(x, "end;");
        told(x, 2, 0);
        x.mark();
        x.back();
        told(x, 2, 0);
    }

    private static void told(AskingCourt x, int kind, int place) {
        Court.due("fault(0)", x.fault(0), kind);
        Court.due("fault(1)", x.fault(1), place);
        for (int what : new int[] {-1, 2, Integer.MIN_VALUE, Integer.MAX_VALUE}) {
            Court.due("fault(" + what + ")", x.fault(what), -1);
        }
    }

    private static void tolds() {
        Sentences.promise(13, "How many FACTS (what 0), VALUES (1), WORLDS (2), QUESTIONS (3), WITNESSES (4); the DAY (5); how"
                + " many answers are HEARD (6), were put on this DAY (7) (1).");
        AskingCourt x = Court.of(SMALL);
        x.hear(0, 0, 0);
        x.nextDay();
        x.nextDay();
        x.hear(1, 1, 2);
        x.hear(1, 2, 4);
        int[] due = {2, 4, 4, 3, 2, 2, 3, 2};
        for (int what = 0; what < 8; what++) {
            Court.given(x, "told(" + what + ")", x.told(what), due[what]);
        }
        Court.refused(x, "told(-1)", x.told(-1), 1);
        Court.refused(x, "told(8)", x.told(8), 1);
        x = Court.of(LARGE);
        due = new int[] {4, 16, 256, 12, 4, 0, 0, 0};
        for (int what = 0; what < 8; what++) {
            Court.given(x, "told(" + what + ")", x.told(what), due[what]);
        }
        x = Court.of("fact a has b c d e f g;fact h has i j k l m n;fact o has p q r s t u;");
        Court.given(x, "the most values", x.told(1), 18);
    }

    private static void parts() {
        AskingCourt x = Court.of(SMALL);
        Sentences.promise(14, "Of a VALUE, what 0: its FACT, 1: its weight (1).");
        int[][] values = {{0, 2}, {0, 1}, {1, 1}, {1, 5}};
        for (int v = 0; v < 4; v++) {
            Court.given(x, "value(" + v + ", 0)", x.value(v, 0), values[v][0]);
            Court.given(x, "value(" + v + ", 1)", x.value(v, 1), values[v][1]);
            Court.refused(x, "value(" + v + ", 2)", x.value(v, 2), 1);
            Court.refused(x, "value(" + v + ", -1)", x.value(v, -1), 1);
        }
        Court.refused(x, "value(4, 0)", x.value(4, 0), 1);
        Court.refused(x, "value(-1, 1)", x.value(-1, 1), 1);
        Sentences.promise(15, "Which VALUE (of all) a FACT has in a WORLD (1).");
        for (int w = 0; w < 4; w++) {
            Court.given(x, "world(" + w + ", 0)", x.world(w, 0), w / 2);
            Court.given(x, "world(" + w + ", 1)", x.world(w, 1), 2 + w % 2);
            Court.refused(x, "world(" + w + ", 2)", x.world(w, 2), 1);
            Court.refused(x, "world(" + w + ", -1)", x.world(w, -1), 1);
        }
        Court.refused(x, "world(4, 0)", x.world(4, 0), 1);
        Court.refused(x, "world(-1, 0)", x.world(-1, 0), 1);
        Sentences.promise(16, "1 if a WORLD is POSSIBLE, else 0 (1).");
        for (int w = 0; w < 4; w++) {
            Court.given(x, "possible(" + w + ")", x.possible(w), w < 3 ? 1 : 0);
        }
        Court.refused(x, "possible(4)", x.possible(4), 1);
        Court.refused(x, "possible(-1)", x.possible(-1), 1);
        Sentences.promise(17, "1 if a QUESTION has a WORLD, else 0 (1).");
        int[][] holds = {{1, 1, 0, 0}, {1, 0, 1, 0}, {1, 0, 0, 0}};
        for (int q = 0; q < 3; q++) {
            for (int w = 0; w < 4; w++) {
                Court.given(x, "holds(" + q + ", " + w + ")", x.holds(q, w), holds[q][w]);
            }
            Court.refused(x, "holds(" + q + ", 4)", x.holds(q, 4), 1);
            Court.refused(x, "holds(" + q + ", -1)", x.holds(q, -1), 1);
        }
        Court.refused(x, "holds(3, 0)", x.holds(3, 0), 1);
        Court.refused(x, "holds(-1, 0)", x.holds(-1, 0), 1);
        Sentences.promise(18, "The fee of a QUESTION (1).");
        for (int q = 0; q < 3; q++) {
            Court.given(x, "fee(" + q + ")", x.fee(q), 3 + 2 * q);
        }
        Court.refused(x, "fee(3)", x.fee(3), 1);
        Court.refused(x, "fee(-1)", x.fee(-1), 1);
        Sentences.promise(19, "Of a WITNESS, what 0 to 3: with how many sixteenths it is of a KIND (0 if it may not be), 4: the set of FACTS it knows (1 for"
                + " FACT 0 ..), 5: the set of QUESTIONS it hides (1).");
        int[][] due = {{12, 4, 0, 0, 1, 4}, {0, 0, 0, 16, 0, 0}};
        for (int v = 0; v < 2; v++) {
            for (int what = 0; what < 6; what++) {
                Court.given(x, "witness(" + v + ", " + what + ")", x.witness(v, what), due[v][what]);
            }
            Court.refused(x, "witness(" + v + ", 6)", x.witness(v, 6), 1);
            Court.refused(x, "witness(" + v + ", -1)", x.witness(v, -1), 1);
        }
        Court.refused(x, "witness(2, 0)", x.witness(2, 0), 1);
        Court.refused(x, "witness(-1, 0)", x.witness(-1, 0), 1);
    }

    private static void largest() {
        Sentences.promise(17, "1 if a QUESTION has a WORLD, else 0 (1).");
        AskingCourt x = Court.of(LARGE);
        for (int q = 0; q < 12; q++) {
            Court.given(x, "fee(" + q + ")", x.fee(q), 9 * q);
            for (int w : new int[] {0, 63, 64, 127, 128, 191, 192, 255}) {
                int value = 15 - q;
                int fact = value / 4;
                int has = 4 * fact + (w >> 6 - 2 * fact & 3);
                Court.given(x, "world(" + w + ", " + fact + ")", x.world(w, fact), has);
                Court.given(x, "holds(" + q + ", " + w + ")", x.holds(q, w), has == value ? 1 : 0);
                Court.given(x, "possible(" + w + ")", x.possible(w), 1);
                Court.given(x, "isLeft(" + w + ")", x.isLeft(w), 1);
            }
        }
        AskingCourt y = Court.of(LARGE.substring(0, LARGE.indexOf("question")) + "question q fee 1 asks not (va or ve);"
                + "question r fee 1 asks (vb or vf) and not (vj and vm or vn);question s fee 1 asks vh and not not vl or vp and vd;");
        for (int w = 0; w < 256; w++) {
            int[] has = {w >> 6, 4 + (w >> 4 & 3), 8 + (w >> 2 & 3), 12 + (w & 3)};
            boolean q = !(has[0] == 0 || has[1] == 4);
            boolean r = (has[0] == 1 || has[1] == 5) && !(has[2] == 9 && has[3] == 12 || has[3] == 13);
            boolean s = has[1] == 7 && has[2] == 11 || has[3] == 15 && has[0] == 3;
            Court.given(y, "holds(0, " + w + ")", y.holds(0, w), q ? 1 : 0);
            Court.given(y, "holds(1, " + w + ")", y.holds(1, w), r ? 1 : 0);
            Court.given(y, "holds(2, " + w + ")", y.holds(2, w), s ? 1 : 0);
        }
        Court.given(x, "value(15, 1)", x.value(15, 1), 9);
        Court.refused(x, "value(16, 1)", x.value(16, 1), 1);
        Court.refused(x, "world(256, 0)", x.world(256, 0), 1);
        Court.refused(x, "possible(256)", x.possible(256), 1);
        Court.refused(x, "fee(12)", x.fee(12), 1);
        Court.refused(x, "witness(4, 0)", x.witness(4, 0), 1);
        Court.given(x, "wd knows the last fact", x.answer(3, 0, 254, 0), 1);
        Court.given(x, "wd knows the last fact", x.answer(3, 0, 255, 0), 0);
        Court.given(x, "hear(3, 0, 0)", x.hear(3, 0, 0));
        Court.given(x, "left()", x.left(), 256);
        Court.given(x, "all was kept", x.fits(3, 0, 255), 1);
        Court.given(x, "all was kept", x.fits(3, 0, 254), 0);
        x.unsay();
        Court.given(x, "hear(3, 0, 23)", x.hear(3, 0, 23));
        Court.given(x, "left()", x.left(), 0);
        Court.given(x, "gave(0)", x.gave(0), 256);
        Court.given(x, "clash()", x.clash(), 0);
    }

    private static void answers() {
        Sentences.promise(20, "What a WITNESS would answer to a QUESTION in a WORLD, if it were of a KIND: twice the QUESTION of its SAYING, and 1 more if that is asked twice; an ECHO is the QUESTION once"
                + " (1; 7: the WORLD is not POSSIBLE).");
        AskingCourt x = Court.of(SMALL);
        Court.given(x, "honest in world 2", x.answer(0, 0, 2, 0), 1);
        Court.given(x, "turned in world 2", x.answer(0, 0, 2, 1), 0);
        Court.given(x, "an echo in world 0", x.answer(0, 0, 0, 0), 0);
        Court.given(x, "what it may not be", x.answer(0, 0, 0, 3), 0);
        Court.given(x, "the last question", x.answer(1, 2, 0, 3), 4);
        int[][] wrong = {{2, 0, 0, 0}, {-1, 0, 0, 0}, {0, 3, 0, 0}, {0, -1, 0, 0}, {0, 0, 4, 0}, {0, 0, -1, 0},
            {0, 0, 0, 4}, {0, 0, 0, -1}, {0, 0, 3, 4}, {0, 3, 3, 0}, {2, 0, 3, 0}};
        for (int[] one : wrong) {
            Court.refused(x, "answer", x.answer(one[0], one[1], one[2], one[3]), 1);
        }
        for (int kind = 0; kind < 4; kind++) {
            Court.refused(x, "world 3", x.answer(0, 0, 3, kind), 7);
        }
    }

    private static void hears() {
        Sentences.promise(21, "A WITNESS is asked a QUESTION, and answers so (as by answer()) (1; 4: nine on this DAY; 7: it was"
                + " put already).");
        AskingCourt x = Court.of(LARGE);
        int[][] wrong = {{4, 0, 0}, {-1, 0, 0}, {0, 12, 0}, {0, -1, 0}, {0, 0, 24}, {0, 0, -1}};
        for (int[] one : wrong) {
            Court.refused(x, "hear", x.hear(one[0], one[1], one[2]), 1);
        }
        Court.given(x, "the largest of all", x.hear(3, 11, 23));
        Court.given(x, "the least of all", x.hear(0, 0, 0));
        Court.refused(x, "put to another", x.hear(1, 0, 0), 7);
        for (int q = 1; q < 8; q++) {
            Court.given(x, "hear", x.hear(1, q, 2 * q + 1));
        }
        Court.refused(x, "nine on this day", x.hear(1, 8, 0), 4);
        Court.refused(x, "4 ahead of 7", x.hear(1, 7, 0), 4);
        for (int[] one : wrong) {
            Court.refused(x, "1 ahead of 4", x.hear(one[0], one[1], one[2]), 1);
        }
        Court.given(x, "told(6)", x.told(6), 9);
        x.nextDay();
        Court.refused(x, "put on the day ahead", x.hear(1, 7, 0), 7);
        Court.given(x, "hear", x.hear(1, 8, 0));
        Court.given(x, "hear", x.hear(1, 9, 0));
        Court.given(x, "the twelfth", x.hear(1, 10, 0));
        Court.given(x, "told(6)", x.told(6), 12);
    }

    private static void unsays() {
        Sentences.promise(22, "The latest answer is undone: how many there are left (6). (It was not put then; if it was on this"
                + " DAY, it does not count there.)");
        AskingCourt x = Court.of(SMALL);
        Court.refused(x, "none yet", x.unsay(), 6);
        x.hear(0, 0, 1);
        Court.given(x, "left()", x.left(), 1);
        x.nextDay();
        x.hear(1, 2, 4);
        Court.given(x, "unsay()", x.unsay(), 1);
        Court.given(x, "told(7)", x.told(7), 0);
        Court.given(x, "it was not put", x.worst(1, 2), 1);
        Court.refused(x, "the other was", x.worst(1, 0), 7);
        Court.given(x, "the day stays", x.told(5), 1);
        Court.given(x, "unsay()", x.unsay(), 0);
        Court.given(x, "left()", x.left(), 3);
        Court.given(x, "it was not put", x.hear(1, 0, 0));
        Court.given(x, "on this day", x.told(7), 1);
        Court.given(x, "unsay()", x.unsay(), 0);
        Court.refused(x, "none any more", x.unsay(), 6);
    }

    private static void days() {
        Sentences.promise(23, "The DAY is over: which one it is now (4: above 99).");
        AskingCourt x = new AskingCourt();
        for (int day = 1; day <= 99; day++) {
            Court.given(x, "nextDay()", x.nextDay(), day);
        }
        Court.refused(x, "above 99", x.nextDay(), 4);
        Court.refused(x, "above 99", x.nextDay(), 4);
        Court.given(x, "told(5)", x.told(5), 99);
        Court.given(x, "a new case", Court.court(x, SMALL), 3);
        Court.given(x, "told(5)", x.told(5), 0);
        for (int day = 1; day <= 99; day++) {
            x.nextDay();
        }
        Court.given(x, "something is heard on day 99", x.hear(0, 0, 0));
        Court.given(x, "heard(0, 3)", x.heard(0, 3), 99);
        Court.refused(x, "above 99", x.nextDay(), 4);
        Court.given(x, "told(7)", x.told(7), 1);
    }

    private static void heards() {
        Sentences.promise(24, "Of the k-th answer HEARD, what 0: WITNESS, 1: QUESTION, 2: answer, 3: its DAY (1: what; 6: no such"
                + " answer).");
        AskingCourt x = Court.of(SMALL);
        Court.refused(x, "none yet", x.heard(0, 0), 6);
        Court.refused(x, "1 ahead of 6", x.heard(0, 4), 1);
        x.hear(1, 2, 5);
        x.nextDay();
        x.hear(0, 1, 0);
        int[][] due = {{1, 2, 5, 0}, {0, 1, 0, 1}};
        for (int k = 0; k < 2; k++) {
            for (int what = 0; what < 4; what++) {
                Court.given(x, "heard(" + k + ", " + what + ")", x.heard(k, what), due[k][what]);
            }
        }
        Court.refused(x, "heard(2, 0)", x.heard(2, 0), 6);
        Court.refused(x, "heard(-1, 3)", x.heard(-1, 3), 6);
        Court.refused(x, "heard(0, 4)", x.heard(0, 4), 1);
        Court.refused(x, "heard(0, -1)", x.heard(0, -1), 1);
        Court.refused(x, "heard(-1, -1)", x.heard(-1, -1), 1);
    }

    private static void lefts() {
        Sentences.promise(25, "How many WORLDS are LEFT.");
        AskingCourt x = Court.of(SMALL);
        Court.given(x, "all that are possible", x.left(), 3);
        x.hear(0, 0, 1);
        Court.given(x, "one", x.left(), 1);
        x.hear(0, 1, 2);
        Court.given(x, "none", x.left(), 0);
        x.unsay();
        Sentences.promise(26, "1 if a WORLD is LEFT, else 0 (1).");
        for (int w = 0; w < 4; w++) {
            Court.given(x, "isLeft(" + w + ")", x.isLeft(w), w == 2 ? 1 : 0);
        }
        x.unsay();
        for (int w = 0; w < 4; w++) {
            Court.given(x, "isLeft(" + w + ")", x.isLeft(w), w == 3 ? 0 : 1);
        }
        Court.refused(x, "isLeft(4)", x.isLeft(4), 1);
        Court.refused(x, "isLeft(-1)", x.isLeft(-1), 1);
        x = Court.of(LARGE);
        Court.given(x, "the last of the most", x.isLeft(255), 1);
        Court.refused(x, "isLeft(256)", x.isLeft(256), 1);
    }

    private static void fit() {
        Sentences.promise(27, "1 if a KIND of a WITNESS FITS a WORLD (LEFT or not), and it may be that one, else 0 (1; 7: the WORLD"
                + " is not POSSIBLE).");
        AskingCourt x = Court.of(SMALL);
        x.hear(0, 0, 1);
        int[][] due = {{0, 0, 1}, {0, 0, 0}, {0, 0, 0}, {0, 0, 0}};
        for (int kind = 0; kind < 4; kind++) {
            for (int w = 0; w < 3; w++) {
                Court.given(x, "fits(0, " + kind + ", " + w + ")", x.fits(0, kind, w), due[kind][w]);
                Court.given(x, "left or not", x.fits(1, kind, w), kind == 3 ? 1 : 0);
            }
            Court.refused(x, "world 3", x.fits(0, kind, 3), 7);
        }
        int[][] wrong = {{2, 0, 0}, {-1, 0, 0}, {0, 4, 0}, {0, -1, 0}, {0, 0, 4}, {0, 0, -1}, {2, 0, 3}, {0, 4, 3}};
        for (int[] one : wrong) {
            Court.refused(x, "fits", x.fits(one[0], one[1], one[2]), 1);
        }
    }

    private static void sures() {
        Sentences.promise(28, "1: a QUESTION is SURE yes, 0: no (1; 6: it is OPEN).");
        AskingCourt x = Court.of(SMALL);
        for (int q = 0; q < 3; q++) {
            Court.refused(x, "open", x.sure(q), 6);
        }
        x.hear(0, 0, 1);
        Court.given(x, "no", x.sure(0), 0);
        Court.given(x, "yes", x.sure(1), 1);
        Court.given(x, "no", x.sure(2), 0);
        x.hear(0, 1, 2);
        Court.refused(x, "none is left", x.sure(0), 6);
        Court.refused(x, "sure(3)", x.sure(3), 1);
        Court.refused(x, "sure(-1)", x.sure(-1), 1);
    }

    private static void fraction(AskingCourt x, long top, long bottom) {
        Court.due("top()", x.top(), top);
        Court.due("bottom()", x.bottom(), bottom);
    }

    private static void chances() {
        Sentences.promise(29, "The FRACTION is CHANCE (1; 6: none is LEFT).");
        AskingCourt x = Court.of(SMALL);
        Court.given(x, "chance(0)", x.chance(0));
        fraction(x, 12, 13);
        Court.given(x, "chance(2)", x.chance(2));
        fraction(x, 2, 13);
        Court.refused(x, "chance(3)", x.chance(3), 1);
        Court.refused(x, "chance(-1)", x.chance(-1), 1);
        fraction(x, 2, 13);
        x.hear(0, 0, 1);
        Court.given(x, "none of it", x.chance(2));
        fraction(x, 0, 1);
        Court.given(x, "all of it", x.chance(1));
        fraction(x, 1, 1);
        x.hear(0, 1, 2);
        Court.refused(x, "none is left", x.chance(2), 6);
        fraction(x, 1, 1);
        Sentences.promise(30, "The FRACTION is TRUST (1; 6: none is LEFT).");
        Court.refused(x, "none is left", x.trust(0, 0), 6);
        fraction(x, 1, 1);
        Court.refused(x, "1 ahead of 6", x.trust(0, 4), 1);
        x.unsay();
        x.unsay();
        Court.given(x, "trust(0, 1)", x.trust(0, 1));
        fraction(x, 1, 4);
        Court.given(x, "what it may not be", x.trust(0, 2));
        fraction(x, 0, 1);
        Court.given(x, "what it must be", x.trust(1, 3));
        fraction(x, 1, 1);
        int[][] wrong = {{2, 0}, {-1, 0}, {0, 4}, {0, -1}};
        for (int[] one : wrong) {
            Court.refused(x, "trust", x.trust(one[0], one[1]), 1);
        }
        fraction(x, 1, 1);
    }

    private static void causes() {
        Sentences.promise(31, "BECAUSE: a set of answers (1; 6: it is OPEN).");
        AskingCourt x = Court.of(SMALL);
        Court.refused(x, "open", x.because(0), 6);
        x.hear(1, 1, 2);
        x.hear(0, 0, 1);
        for (int q = 0; q < 3; q++) {
            Court.given(x, "because(" + q + ")", x.because(q), 2);
        }
        Court.refused(x, "because(3)", x.because(3), 1);
        Court.refused(x, "because(-1)", x.because(-1), 1);
        Sentences.promise(32, "GAVE (6: no such answer).");
        Court.given(x, "gave(0)", x.gave(0), 0);
        Court.given(x, "gave(1)", x.gave(1), 2);
        Court.refused(x, "gave(2)", x.gave(2), 6);
        Court.refused(x, "gave(-1)", x.gave(-1), 6);
        Court.refused(x, "the least", x.gave(Integer.MIN_VALUE), 6);
        Sentences.promise(33, "FEES.");
        Court.given(x, "an echo, and itself twice", x.fees(), 10 + 9);
        x.hear(1, 2, 3);
        Court.given(x, "and q twice", x.fees(), 10 + 9 + 17);
        Court.given(x, "none left, and yet", x.left(), 0);
        Court.refused(x, "open", x.because(0), 6);
        x = Court.of("fact x has a b;question p fee 99 asks a;witness w may honest 16;");
        x.hear(0, 0, 1);
        Court.given(x, "the largest fee", x.fees(), 297);
    }

    private static void putting() {
        Sentences.promise(34, "WORST (1; 7: it was put already; 6: none is LEFT).");
        AskingCourt x = Court.of(SMALL);
        Court.given(x, "worst(0, 0)", x.worst(0, 0), 3);
        Court.given(x, "worst(0, 1)", x.worst(0, 1), 2);
        Court.given(x, "worst(1, 2)", x.worst(1, 2), 3);
        int[][] wrong = {{2, 0}, {-1, 0}, {0, 3}, {0, -1}};
        for (int[] one : wrong) {
            Court.refused(x, "worst", x.worst(one[0], one[1]), 1);
        }
        x.hear(1, 1, 2);
        Court.refused(x, "put already", x.worst(0, 1), 7);
        Sentences.promise(35, "BEST (1; 6: none is LEFT, all were put).");
        Court.given(x, "two behind r, three behind p", x.best(0), 2);
        x.hear(1, 0, 0);
        Court.given(x, "best(0)", x.best(0), 2);
        x.hear(1, 2, 4);
        Court.refused(x, "all were put", x.best(0), 6);
        Court.refused(x, "best(2)", x.best(2), 1);
        Court.refused(x, "best(-1)", x.best(-1), 1);
        x.unsay();
        x.unsay();
        x.hear(1, 0, 5);
        Court.given(x, "left()", x.left(), 0);
        Court.refused(x, "none is left", x.best(0), 6);
        Court.refused(x, "none is left", x.worst(0, 2), 6);
        Sentences.promise(38, "SETTLED.");
        Court.given(x, "none is left", x.settled(), 0);
        x.unsay();
        Court.given(x, "all are open", x.settled(), 0);
        x.hear(0, 0, 1);
        Court.given(x, "r alone was not put", x.settled(), 1);
    }

    private static void shortests() {
        Sentences.promise(36, "SHORTEST to a QUESTION, by a WITNESS, or by any (NONE) (1; 6: not by so few; none is LEFT).");
        AskingCourt x = Court.of(SMALL);
        Sentences.promise(37, "The first to be put by shortest() latest with STATUS 0, what 0: WITNESS, 1: QUESTION (1; 6: there"
                + " was none, or it was 0).");
        Court.refused(x, "there was none", x.shortestFirst(0), 6);
        Court.refused(x, "1 ahead of 6", x.shortestFirst(2), 1);
        Court.refused(x, "not by so few", x.shortest(1, -1), 6);
        Court.refused(x, "not by so few", x.shortest(0, 1), 6);
        Court.refused(x, "there was none", x.shortestFirst(1), 6);
        Court.given(x, "by any", x.shortest(0, -1), 1);
        Court.given(x, "shortestFirst(0)", x.shortestFirst(0), 0);
        Court.given(x, "shortestFirst(1)", x.shortestFirst(1), 1);
        int[][] wrong = {{3, 0}, {-1, 0}, {0, 2}, {0, -2}, {3, -1}};
        for (int[] one : wrong) {
            Court.refused(x, "shortest", x.shortest(one[0], one[1]), 1);
        }
        Court.refused(x, "shortestFirst(2)", x.shortestFirst(2), 1);
        Court.refused(x, "shortestFirst(-1)", x.shortestFirst(-1), 1);
        Court.given(x, "it is as it was", x.shortestFirst(1), 1);
        x.hear(0, 0, 1);
        Court.given(x, "it stays", x.shortestFirst(1), 1);
        Court.given(x, "sure already", x.shortest(0, 1), 0);
        Court.refused(x, "it was 0", x.shortestFirst(0), 6);
        x.hear(0, 1, 2);
        Court.refused(x, "none is left", x.shortest(0, -1), 6);
        Court.refused(x, "none is left", x.shortest(0, 0), 6);
    }

    private static void benches() {
        Sentences.promise(39, "BENCH.");
        AskingCourt x = Court.of(SMALL);
        Court.given(x, "bench()", x.bench(), 3);
        Sentences.promise(40, "CLASH: its number (6: some are LEFT to the end).");
        Court.refused(x, "nothing heard", x.clash(), 6);
        x.hear(1, 2, 4);
        x.hear(0, 0, 1);
        Court.refused(x, "some are left to the end", x.clash(), 6);
        Court.given(x, "bench()", x.bench(), 1);
        x.hear(0, 1, 0);
        Court.given(x, "left()", x.left(), 0);
        Court.given(x, "its number", x.clash(), 2);
        Court.given(x, "bench()", x.bench(), 0);
        Sentences.promise(41, "LIARS (6: none is LEFT).");
        Court.refused(x, "none is left", x.liars(), 6);
        x.unsay();
        Court.given(x, "liars()", x.liars(), 0);
        x.unsay();
        x.hear(0, 1, 0);
        Court.given(x, "who turns in world 2", x.liars(), 1);
        Court.given(x, "left()", x.left(), 1);
        Court.given(x, "its number", x.clash(), 1);
    }

    private static void sits() {
        Sentences.promise(42, "SITS: 0 to 2 (1; 6: no PLAN, no WORLD is POSSIBLE).");
        AskingCourt x = Court.of(SMALL);
        Court.refused(x, "no plan", x.sit(0), 6);
        Court.refused(x, "1 ahead of 6", x.sit(-1), 1);
        Court.refused(x, "1 ahead of 6", x.sit(10000), 1);
        Sentences.promise(43, "Of sit() latest with STATUS 0, what 0: how many were put, 1: FEES, 2: the DAY, 3: the true WORLD,"
                + " 4: WORLDS that were LEFT at the end, 5: the set of WITNESSES that were not honest (1; 6: there was none).");
        Court.refused(x, "there was none", x.sat(0), 6);
        Court.refused(x, "1 ahead of 6", x.sat(6), 1);
        Court.refused(x, "1 ahead of 6", x.sat(-1), 1);
        Court.plan(x, "ask w q;next;ask z r;");
        Court.given(x, "sit(0)", x.sit(0), 2);
        Court.given(x, "sat(0)", x.sat(0), 2);
        Court.given(x, "sat(2)", x.sat(2), 1);
        Court.given(x, "z is silent", x.sat(5) & 2, 2);
        Court.refused(x, "sat(6)", x.sat(6), 1);
        int world = x.sat(3);
        Court.refused(x, "a sit() that was refused", x.sit(10000), 1);
        Court.given(x, "is none", x.sat(3), world);
        Court.given(x, "a new case", Court.court(x, ""), 1);
        Court.given(x, "leaves it", x.sat(0), 2);
        Court.refused(x, "and there is no plan", x.sit(0), 6);
        Court.given(x, "leaves it", x.sat(0), 2);
        Sentences.promise(44, "Of so many seeds (1 to 30) from one on, how many end so (0 to 2)");
        Court.plan(x, "next;");
        Court.given(x, "one", x.tally(9999, 1, 2), 1);
        Court.given(x, "thirty", x.tally(9970, 30, 2), 30);
        Court.given(x, "none", x.tally(0, 30, 0), 0);
        Court.refused(x, "the last is 10,000", x.tally(9971, 30, 2), 1);
        Court.refused(x, "none to sit", x.tally(0, 0, 2), 1);
        Court.refused(x, "thirty-one", x.tally(0, 31, 2), 1);
        Court.given(x, "leaves it", x.sat(0), 2);
    }

    private static void marks() {
        Sentences.promise(45, "A MARK more: how many there are (4).");
        AskingCourt x = new AskingCourt();
        for (int many = 1; many <= 3; many++) {
            Court.given(x, "mark()", x.mark(), many);
            Court.given(x, "nextDay()", x.nextDay(), many);
        }
        Court.refused(x, "a fourth", x.mark(), 4);
        Sentences.promise(46, "All is taken back to the latest MARK: how many there are left (6).");
        for (int left = 2; left >= 0; left--) {
            Court.given(x, "back()", x.back(), left);
            Court.given(x, "told(5)", x.told(5), left);
        }
        Court.refused(x, "none is there", x.back(), 6);
        Court.given(x, "told(5)", x.told(5), 0);
        Court.given(x, "mark()", x.mark(), 1);
        Court.given(x, "a new case leaves it", Court.court(x, SMALL), 3);
        Court.given(x, "mark()", x.mark(), 2);
        x.hear(0, 0, 1);
        Court.given(x, "back()", x.back(), 1);
        Court.given(x, "left()", x.left(), 3);
        Court.given(x, "back()", x.back(), 0);
        Court.given(x, "told(3)", x.told(3), 0);
    }
}
