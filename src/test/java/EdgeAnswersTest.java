/** The edges of "==== 2.": what a witness knows, what it asks back, what fits, what is sure and by which answers. */
public final class EdgeAnswersTest {
    /** World 2 can't be. p holds 0 1, r holds 1 3, u holds 3; s knows x, k knows y, n nothing. */
    private static final String NEVER = "fact x has a b;fact y has c d;never b c;"
            + "question p fee 1 asks a;question r fee 2 asks d;question u fee 4 asks b;"
            + "witness s knows x may honest 16;witness k knows y may honest 16;witness n may honest 16;";
    /** p holds 0 1, n nothing, t all, r 0 2. */
    private static final String EMPTY = "fact x has a b;fact y has c d;question p fee 0 asks a;"
            + "question n fee 0 asks a and b;question t fee 0 asks a or b;question r fee 0 asks c;"
            + "witness w knows x may honest 16;witness u may honest 16;witness h knows x y may honest 16 hides r p;";
    /** Asked r or s, w says p twice if honest in a or turning in b, else p once. */
    private static final String TURNING = "fact x has a 9 b;question p fee 7 asks b;question r fee 20 asks a;"
            + "question s fee 50 asks a;witness w knows x may honest 15 turns 1;";
    /** w tells a, v tells c, k tells both, z nothing. */
    private static final String PROOFS = "fact x has a b;fact y has c d;question p fee 0 asks a;question r fee 0 asks a;"
            + "question s fee 0 asks c;question t fee 0 asks a and c;witness w knows x may honest 16;"
            + "witness v knows y may honest 16;witness z may silent 16;witness k knows x y may honest 16;";
    private static final int[][] TWO_TELL_A = {{0, 0, 2}, {0, 1, 0}, {1, 2, 4}};

    public static void main(String[] args) {
        meanings();
        knownSets();
        honestWithin();
        others();
        questionsOfNothing();
        oneQuestion();
        hiding();
        orderOfSayings();
        noWorldPossible();
        twelveHeard();
        nineOnADay();
        oneKindForAll();
        sureAndOpen();
        weights();
        because();
        lastOfTwelve();
        fees();
        gave();
        benches();
        Court.end("EdgeAnswersTest");
    }

    /** Honest, turns, other in a world; a silent one gives an echo. */
    private static void row(AskingCourt x, int witness, int question, int world, int... due) {
        for (int kind = 0; kind < 4; kind++) {
            String call = "answer(" + witness + ", " + question + ", " + world + ", " + kind + ")";
            Court.given(x, call, x.answer(witness, question, world, kind), kind == 3 ? 2 * question : due[kind]);
        }
    }

    /** World 3 can't be, so p twice means what r once means: world 2 alone. */
    private static void meanings() {
        Sentences.terms("A SAYING is a QUESTION asked once, which means that it is so, or asked twice, which means that it is"
                + " not: a set of POSSIBLE WORLDS each.");
        AskingCourt x = Court.of("fact x has a b;fact y has c d;never b d;question p fee 0 asks a;question r fee 0 asks c and b;"
                + "question s fee 0 asks d or b;witness w knows x y may honest 16;");
        row(x, 0, 1, 2, 1, 0, 4);
        row(x, 0, 0, 2, 1, 0, 4);
        row(x, 0, 0, 0, 3, 2, 0);
        row(x, 0, 2, 0, 5, 4, 0);
        Court.given(x, "hear(0, 0, 3): r is not so", x.hear(0, 0, 3));
        Court.given(x, "left()", x.left(), 2);
        Court.given(x, "isLeft(0)", x.isLeft(0), 1);
        Court.given(x, "isLeft(3)", x.isLeft(3), 0);
        Court.given(x, "gave(0)", x.gave(0), 1);
    }

    /** p holds 0 to 3, q 0 1, r 0. */
    private static void honestWithin() {
        Sentences.terms("honest: if K is within q: the first SAYING, not q once, whose meaning M holds K and is within q;");
        AskingCourt x = Court.of("fact x has a b;fact y has c d;fact z has e f;question p fee 0 asks a;"
                + "question q fee 0 asks a and c;question r fee 0 asks a and c and e;witness w knows x y z may honest 16;"
                + "witness v knows x y may honest 16;");
        row(x, 0, 0, 0, 2, 3, 0);
        row(x, 0, 0, 1, 2, 3, 5);
        row(x, 0, 0, 2, 0, 0, 3);
        row(x, 0, 1, 0, 4, 5, 0);
        row(x, 0, 1, 1, 2, 2, 0);
        row(x, 0, 2, 0, 4, 4, 0);
        row(x, 1, 0, 0, 2, 3, 0);
        row(x, 1, 1, 0, 2, 2, 0);
        row(x, 1, 2, 0, 4, 4, 0);
        row(x, 1, 2, 2, 3, 2, 0);
        row(x, 1, 1, 2, 3, 2, 0);
        row(x, 1, 0, 7, 1, 0, 3);
    }

    private static void others() {
        Sentences.terms("other: the first SAYING of another QUESTION than q whose M holds K, is not all POSSIBLE WORLDS, has some"
                + " of q and some that q has not; else an ECHO. silent: an ECHO.");
        AskingCourt x = Court.of("fact x has a b;fact y has c d;question t fee 0 asks a or b;question q fee 0 asks a;"
                + "question m fee 0 asks b;question n fee 0 asks a and b;question r fee 0 asks c;witness w knows x y may honest 16;");
        int[][] due = {{0, 8, 8, 6, 2}, {0, 9, 9, 6, 2}, {0, 8, 8, 6, 3}, {0, 9, 9, 6, 3}};
        for (int world = 0; world < 4; world++) {
            for (int question = 0; question < 5; question++) {
                Court.given(x, "other", x.answer(0, question, world, 2), due[world][question]);
                Court.given(x, "silent", x.answer(0, question, world, 3), 2 * question);
            }
        }
    }

    private static void knownSets() {
        Sentences.terms("KNOWS the set K of all POSSIBLE ones that have the same VALUES of all FACTS it knows (without any: all)");
        AskingCourt x = Court.of(NEVER);
        for (int world = 0; world < 2; world++) {
            row(x, 0, 0, world, 5, 4, 0);
            row(x, 0, 1, world, 2, 2, 0);
            row(x, 0, 2, world, 0, 1, 4);
        }
        row(x, 0, 0, 3, 1, 0, 2);
        row(x, 0, 1, 3, 1, 0, 2);
        row(x, 0, 2, 3, 1, 0, 2);
        row(x, 1, 0, 0, 3, 2, 0);
        row(x, 1, 1, 0, 3, 2, 0);
        row(x, 1, 2, 0, 0, 1, 4);
        for (int world = 1; world < 4; world += 2) {
            row(x, 1, 0, world, 0, 0, 2);
            row(x, 1, 1, world, 2, 2, 2);
            row(x, 1, 2, world, 4, 4, 2);
        }
        for (int question = 0; question < 3; question++) {
            row(x, 2, question, 0, 2 * question, 2 * question, 2 * question);
            row(x, 2, question, 3, 2 * question, 2 * question, 2 * question);
            Court.refused(x, "a world that can't be", x.answer(1, question, 2, 0), 7);
        }
    }

    private static void questionsOfNothing() {
        Sentences.terms("if K has nothing of q: the first with K within M and M without anything of q; else, and if there"
                + " is none, an ECHO.");
        AskingCourt x = Court.of(EMPTY);
        row(x, 0, 0, 0, 0, 0, 0);
        row(x, 0, 1, 0, 0, 1, 2);
        row(x, 0, 2, 0, 0, 1, 4);
        row(x, 0, 3, 0, 6, 6, 0);
        row(x, 0, 0, 3, 1, 0, 0);
        row(x, 0, 1, 3, 1, 0, 2);
        row(x, 0, 2, 3, 1, 0, 4);
        row(x, 0, 3, 3, 6, 6, 1);
        Sentences.terms("(so q twice becomes an ECHO, and an ECHO stays one)");
        for (int world = 0; world < 4; world++) {
            row(x, 1, 0, world, 0, 0, 0);
            row(x, 1, 1, world, 3, 2, 2);
            row(x, 1, 2, world, 3, 2, 4);
            row(x, 1, 3, world, 6, 6, 6);
        }
    }

    private static void oneQuestion() {
        Sentences.terms("else, and if there is none, an ECHO");
        AskingCourt x = Court.of("fact x has a b;question t fee 0 asks a or b;witness w knows x may honest 16;");
        row(x, 0, 0, 0, 0, 0, 0);
        row(x, 0, 0, 1, 0, 0, 0);
        AskingCourt y = Court.of("fact x has a b;question n fee 0 asks a and b;witness w knows x may honest 16;");
        row(y, 0, 0, 0, 1, 0, 0);
        row(y, 0, 0, 1, 1, 0, 0);
    }

    private static void hiding() {
        Sentences.terms("Who hides q answers as other, of whatever KIND (silent: an ECHO all the same).");
        AskingCourt x = Court.of(EMPTY);
        int[] asked = {6, 7, 6, 7};
        int[] other = {0, 0, 1, 1};
        for (int world = 0; world < 4; world++) {
            row(x, 2, 0, world, asked[world], asked[world], asked[world]);
            row(x, 2, 3, world, other[world], other[world], other[world]);
        }
        row(x, 2, 1, 0, 0, 1, 2);
        AskingCourt y = Court.of("fact x has a b;question p fee 0 asks a;witness h knows x may honest 16 hides p;");
        row(y, 0, 0, 0, 0, 0, 0);
        row(y, 0, 0, 1, 0, 0, 0);
    }

    private static void orderOfSayings() {
        Sentences.terms("SAYINGS stand by their QUESTIONS, once ahead of twice.");
        AskingCourt x = Court.of(TURNING);
        row(x, 0, 0, 0, 1, 0, 0);
        row(x, 0, 1, 0, 1, 0, 2);
        row(x, 0, 2, 0, 1, 0, 4);
        row(x, 0, 0, 1, 3, 2, 0);
        row(x, 0, 1, 1, 0, 1, 2);
        row(x, 0, 2, 1, 0, 1, 4);
    }

    private static void noWorldPossible() {
        Sentences.terms("OPEN else, and if none is LEFT");
        AskingCourt x = Court.of("fact x has a b;fact y has c d;never a c;never a d;never b c;never b d;"
                + "question p fee 3 asks a;question r fee 3 asks not a;witness w may honest 16;");
        Court.given(x, "left()", x.left(), 0);
        Court.given(x, "told(2)", x.told(2), 4);
        for (int q = 0; q < 2; q++) {
            Court.refused(x, "sure", x.sure(q), 6);
            Court.refused(x, "because", x.because(q), 6);
            Court.refused(x, "chance", x.chance(q), 6);
            Court.refused(x, "worst", x.worst(0, q), 6);
            Court.refused(x, "shortest", x.shortest(q, 0), 6);
            for (int w = 0; w < 4; w++) {
                Court.given(x, "holds", x.holds(q, w), 0);
                Court.given(x, "isLeft", x.isLeft(w), 0);
                Court.refused(x, "answer", x.answer(0, q, w, 0), 7);
                Court.refused(x, "fits", x.fits(0, 0, w), 7);
            }
        }
        Court.refused(x, "trust", x.trust(0, 0), 6);
        Court.refused(x, "best", x.best(0), 6);
        Court.refused(x, "liars", x.liars(), 6);
        Court.refused(x, "clash", x.clash(), 6);
        Court.given(x, "settled", x.settled(), 0);
        Court.given(x, "bench", x.bench(), 0);
        Court.given(x, "hear(0, 1, 3)", x.hear(0, 1, 3));
        Court.given(x, "fees()", x.fees(), 9);
        Court.given(x, "gave(0)", x.gave(0), 0);
        Court.given(x, "clash(): the first", x.clash(), 0);
        Court.given(x, "unsay()", x.unsay(), 0);
    }

    /** All ask the same; z is silent, w knows it. */
    private static String twelve() {
        StringBuilder text = new StringBuilder("fact x has a b;witness z may silent 16;witness w knows x may honest 16;");
        for (int q = 0; q < 12; q++) {
            text.append("question q").append((char) ('a' + q)).append(" fee 0 asks a;");
        }
        return text.toString();
    }

    private static void twelveHeard() {
        Sentences.terms("HEARD are at most 12 answers, one behind the other: which WITNESS, which QUESTION, with which SAYING.");
        AskingCourt x = Court.of(twelve());
        for (int k = 0; k < 12; k++) {
            if (k % 5 == 4) {
                x.nextDay();
            }
            Court.given(x, "hear " + k, x.hear(k % 2, 11 - k, 23 - 2 * k));
            Court.given(x, "told(6)", x.told(6), k + 1);
            Court.refused(x, "one behind", x.heard(k + 1, 0), 6);
        }
        for (int k = 0; k < 12; k++) {
            Court.given(x, "heard(" + k + ", 0)", x.heard(k, 0), k % 2);
            Court.given(x, "heard(" + k + ", 1)", x.heard(k, 1), 11 - k);
            Court.given(x, "heard(" + k + ", 2)", x.heard(k, 2), 23 - 2 * k);
            Court.given(x, "heard(" + k + ", 3)", x.heard(k, 3), (k + 1) / 5);
        }
        for (int q = 0; q < 12; q++) {
            Court.refused(x, "a thirteenth", x.hear(1, q, 0), 7);
        }
        x.nextDay();
        Court.refused(x, "a thirteenth", x.hear(1, 0, 0), 7);
        Court.refused(x, "heard(-1, 0)", x.heard(-1, 0), 6);
    }

    private static void nineOnADay() {
        Sentences.terms("No QUESTION is put twice, nine at most are put on a DAY.");
        AskingCourt x = Court.of(twelve());
        for (int q = 0; q < 9; q++) {
            Court.given(x, "hear " + q, x.hear(0, q, 2 * q));
            Court.given(x, "told(7)", x.told(7), q + 1);
        }
        Court.refused(x, "a tenth", x.hear(0, 9, 18), 4);
        Court.refused(x, "a tenth, put already", x.hear(0, 8, 16), 4);
        x.nextDay();
        Court.refused(x, "put already, on the day ahead", x.hear(1, 8, 16), 7);
        Court.given(x, "hear(0, 9, 18)", x.hear(0, 9, 18));
        Court.given(x, "told(7)", x.told(7), 1);
        Court.given(x, "unsay() of this day", x.unsay(), 9);
        Court.given(x, "told(7)", x.told(7), 0);
        Court.given(x, "unsay() of the day ahead", x.unsay(), 8);
        Court.given(x, "told(7)", x.told(7), 0);
        Court.given(x, "what was undone was not put", x.hear(1, 8, 0));
        Court.given(x, "its day is this one", x.heard(8, 3), 1);
        Court.given(x, "told(7)", x.told(7), 1);
    }

    private static void oneKindForAll() {
        Sentences.terms("KIND k of a WITNESS FITS a WORLD, if it answers so there to all that it was asked.");
        AskingCourt x = Court.of(TURNING);
        int[][] all = {{1, 1}, {1, 1}, {0, 0}, {0, 0}};
        fit(x, all);
        x.hear(0, 1, 1);
        fit(x, new int[][] {{1, 0}, {0, 1}, {0, 0}, {0, 0}});
        Court.given(x, "left()", x.left(), 2);
        Court.given(x, "bench()", x.bench(), 1);
        x.hear(0, 2, 0);
        fit(x, new int[4][2]);
        Sentences.terms("LEFT are POSSIBLE WORLDS in which each WITNESS has a KIND (that it may be) that FITS.");
        Court.given(x, "no kind gives both", x.left(), 0);
        Court.given(x, "the first alone", x.gave(0), 0);
        Court.given(x, "the second alone", x.gave(1), 0);
        Court.given(x, "clash()", x.clash(), 1);
        x.unsay();
        fit(x, new int[][] {{1, 0}, {0, 1}, {0, 0}, {0, 0}});
        x.unsay();
        fit(x, all);
        x.hear(0, 1, 2);
        fit(x, new int[4][2]);
        Court.given(x, "who may not be silent", x.left(), 0);
    }

    private static void fit(AskingCourt x, int[][] due) {
        for (int kind = 0; kind < 4; kind++) {
            for (int world = 0; world < 2; world++) {
                Court.given(x, "fits(0, " + kind + ", " + world + ")", x.fits(0, kind, world), due[kind][world]);
            }
        }
    }

    private static void sureAndOpen() {
        Sentences.terms("A QUESTION is SURE: yes, if all WORLDS LEFT are in it, no, if none is; OPEN else");
        AskingCourt x = Court.of(EMPTY);
        Court.refused(x, "some are", x.sure(0), 6);
        Court.given(x, "none is", x.sure(1), 0);
        Court.given(x, "all are", x.sure(2), 1);
        Court.given(x, "by no answer", x.because(1), 0);
        Court.given(x, "by no answer", x.because(2), 0);
        Court.given(x, "settled()", x.settled(), 2);
        x.hear(1, 2, 3);
        Court.given(x, "sure though put", x.sure(2), 1);
        Court.given(x, "but not counted", x.settled(), 1);
        Court.given(x, "by no answer, though one was heard", x.because(2), 0);
        x.hear(0, 1, 0);
        Court.given(x, "by no answer, though two were heard", x.because(1), 0);
        Court.given(x, "by the second", x.because(0), 2);
        Court.given(x, "left()", x.left(), 2);
        Court.given(x, "all two are", x.sure(0), 1);
        Court.refused(x, "one of two is", x.sure(3), 6);
        Court.given(x, "settled()", x.settled(), 1);
    }

    private static void told(AskingCourt x, String call, boolean good, long top, long bottom) {
        Court.given(x, call, good);
        Court.due(call + ", then top()", x.top(), top);
        Court.due(call + ", then bottom()", x.bottom(), bottom);
    }

    private static void weights() {
        Sentences.terms("WEIGHT of a WORLD that is LEFT: its VALUES' weights times one another, times, for each WITNESS, the"
                + " sixteenths of KINDS that FIT together. CHANCE of a QUESTION: WEIGHT of WORLDS LEFT in it by that of all"
                + " LEFT.");
        AskingCourt x = Court.of(TURNING);
        told(x, "chance(0)", x.chance(0), 1, 10);
        told(x, "trust(0, 0)", x.trust(0, 0), 15, 16);
        told(x, "trust(0, 3)", x.trust(0, 3), 0, 1);
        x.hear(0, 1, 1);
        told(x, "chance(0)", x.chance(0), 1, 136);
        told(x, "chance(1)", x.chance(1), 135, 136);
        Sentences.terms("TRUST: that a WITNESS is of a KIND: likewise, by WEIGHT with that KIND alone for it.");
        told(x, "trust(0, 0)", x.trust(0, 0), 135, 136);
        told(x, "trust(0, 1)", x.trust(0, 1), 1, 136);
        told(x, "trust(0, 2)", x.trust(0, 2), 0, 1);
        x.hear(0, 0, 1);
        told(x, "chance(0)", x.chance(0), 0, 1);
        told(x, "chance(1)", x.chance(1), 1, 1);
        told(x, "trust(0, 0)", x.trust(0, 0), 1, 1);
        Sentences.terms("FRACTIONS are told by top() and bottom() without a common divisor, the bottom above 0; 0 is 0 by 1.");
        AskingCourt y = new AskingCourt();
        Court.due("top()", y.top(), 0);
        Court.due("bottom()", y.bottom(), 1);
        StringBuilder heavy = new StringBuilder();
        for (int f = 0; f < 4; f++) {
            heavy.append("fact f").append((char) ('a' + f)).append(" has");
            for (int v = 0; v < 4; v++) {
                heavy.append(" v").append((char) ('a' + f)).append((char) ('a' + v)).append(" 9");
            }
            heavy.append(";witness w").append((char) ('a' + f)).append(" may turns 16;");
        }
        y = Court.of(heavy + "question q fee 0 asks vaa and (vba or vbb and vca);question n fee 0 asks vaa and vab;");
        told(y, "of the heaviest", y.chance(0), 5, 64);
        told(y, "of nothing", y.chance(1), 0, 1);
        told(y, "of all", y.trust(3, 1), 1, 1);
    }

    private static void hear(AskingCourt x, int[]... answers) {
        for (int[] one : answers) {
            Court.given(x, "hear", x.hear(one[0], one[1], one[2]));
        }
    }

    private static void because() {
        Sentences.terms("BECAUSE: the least set of answers HEARD (of the fewest; then the least as a number: 1 for the"
                + " first, 2 for the second ..) by which alone a QUESTION is SURE as it is.");
        AskingCourt x = Court.of(PROOFS);
        hear(x, TWO_TELL_A);
        Court.given(x, "the first and the third", x.because(3), 5);
        Court.given(x, "the first", x.because(0), 1);
        Court.given(x, "the third", x.because(2), 4);
        AskingCourt y = Court.of(PROOFS);
        hear(y, new int[] {2, 3, 6});
        hear(y, TWO_TELL_A);
        Court.given(y, "behind one who is silent", y.because(3), 10);
        Court.given(y, "the second", y.because(0), 2);
        AskingCourt z = Court.of(PROOFS);
        hear(z, new int[] {0, 0, 2}, new int[] {1, 2, 4}, new int[] {3, 3, 6});
        Court.given(z, "one is fewer than two, though more as a number", z.because(3), 4);
        Court.given(z, "1 is less than 4", z.because(0), 1);
        z.unsay();
        Court.given(z, "without the last", z.because(3), 3);
        z.unsay();
        Court.refused(z, "open", z.because(3), 6);
        AskingCourt u = Court.of(PROOFS);
        hear(u, new int[] {1, 2, 4}, new int[] {0, 0, 2}, new int[] {0, 1, 0});
        Court.given(u, "3 is less than 5", u.because(3), 3);
        AskingCourt s = Court.of("fact x has a b;fact y has c d;question p fee 0 asks a;question q fee 0 asks c;"
                + "question t fee 0 asks a and c;question n fee 0 asks not (a and d);"
                + "witness w knows x may honest 16;witness v knows y may honest 16;");
        hear(s, new int[] {0, 0, 0}, new int[] {1, 1, 2});
        Court.given(s, "by both", s.because(2), 3);
        Court.given(s, "by the second", s.because(3), 2);
        Court.given(s, "by both", s.because(2), 3);
        AskingCourt w = Court.of("fact x has b a;fact y has d c;fact u has f e;question p fee 0 asks a;question q fee 0 asks c;"
                + "question r fee 0 asks e;question t fee 0 asks a and e;witness w knows x may honest 16;"
                + "witness v knows y may honest 16;witness o knows u may honest 16;");
        hear(w, new int[] {0, 0, 0}, new int[] {1, 1, 2}, new int[] {2, 2, 4});
        int[] due = {1, 2, 4, 5};
        for (int q : new int[] {3, 0, 3, 1, 3, 2, 0, 1, 2, 3}) {
            Court.given(w, "whatever was told ahead, because(" + q + ")", w.because(q), due[q]);
        }
        AskingCourt v = Court.of(PROOFS);
        hear(v, new int[] {0, 0, 1}, new int[] {1, 2, 5});
        Court.given(v, "sure no by either", v.because(3), 1);
        Court.given(v, "sure no", v.sure(3), 0);
    }

    private static void lastOfTwelve() {
        AskingCourt x = Court.of(twelve());
        for (int q = 0; q < 12; q++) {
            if (q == 6) {
                x.nextDay();
            }
            Court.refused(x, "open", x.because(q), 6);
            x.hear(q == 11 ? 1 : 0, q, q == 11 ? 0 : 2 * q);
        }
        for (int q = 0; q < 12; q++) {
            Court.given(x, "by the twelfth alone", x.because(q), 2048);
        }
        Court.given(x, "settled()", x.settled(), 0);
        StringBuilder text = new StringBuilder("fact a has b c d e;fact f has g h i j;fact k has l m n o;fact p has q r s t;"
                + "witness z may silent 16;witness w knows a may honest 16;");
        for (int q = 0; q < 12; q++) {
            text.append("question q").append((char) ('a' + q)).append(" fee 0 asks b;");
        }
        AskingCourt y = Court.of(text.toString());
        for (int q = 0; q < 12; q++) {
            y.nextDay();
            y.hear(q == 11 ? 1 : 0, q, q == 11 ? 1 : 2 * q);
        }
        Court.given(y, "three of four are left", y.left(), 192);
        Court.given(y, "no, by the twelfth alone", y.because(0), 2048);
        Court.given(y, "sure(11)", y.sure(11), 0);
    }

    private static void fees() {
        Sentences.terms("FEES: for each answer HEARD the fee of what was put, and that of the SAYING, twice if it was asked"
                + " twice (an ECHO's once).");
        AskingCourt x = Court.of(TURNING);
        Court.given(x, "of nothing", x.fees(), 0);
        x.hear(0, 1, 2);
        Court.given(x, "an echo", x.fees(), 40);
        x.unsay();
        x.hear(0, 1, 3);
        Court.given(x, "itself twice", x.fees(), 60);
        x.hear(0, 0, 4);
        Court.given(x, "s once", x.fees(), 60 + 57);
        x.hear(0, 2, 1);
        Court.given(x, "p twice", x.fees(), 60 + 57 + 64);
        x.unsay();
        x.unsay();
        Court.given(x, "what was undone is free", x.fees(), 60);
    }

    private static void gave() {
        Sentences.terms("GAVE: how many POSSIBLE WORLDS the k-th answer alone takes away.");
        AskingCourt x = Court.of(PROOFS);
        hear(x, new int[] {3, 3, 6}, new int[] {0, 0, 2}, new int[] {2, 1, 2}, new int[] {1, 2, 7});
        int[] due = {3, 2, 0, 4};
        for (int k = 0; k < 4; k++) {
            Court.given(x, "gave(" + k + ")", x.gave(k), due[k]);
        }
        Court.refused(x, "gave(4)", x.gave(4), 6);
        Court.refused(x, "gave(-1)", x.gave(-1), 6);
    }

    private static void benches() {
        Sentences.terms("BENCH: another one takes all for honest: how many WORLDS are LEFT so; CLASH: the first answer HEARD"
                + " with which none is.");
        AskingCourt x = Court.of(TURNING);
        Court.given(x, "bench()", x.bench(), 2);
        Court.refused(x, "clash()", x.clash(), 6);
        x.hear(0, 0, 2);
        Court.given(x, "no honest one says so", x.bench(), 0);
        Court.given(x, "clash()", x.clash(), 0);
        Sentences.terms("LIARS: the set of WITNESSES (1 for WITNESS 0 ..) for whom honest FITS no WORLD that is LEFT.");
        Court.given(x, "left()", x.left(), 1);
        Court.given(x, "liars()", x.liars(), 1);
        x.unsay();
        x.hear(0, 1, 1);
        x.hear(0, 0, 1);
        Court.given(x, "bench()", x.bench(), 1);
        Court.refused(x, "clash()", x.clash(), 6);
        Court.given(x, "liars()", x.liars(), 0);
        AskingCourt y = Court.of("fact x has a b;question p fee 0 asks a;question r fee 0 asks b;witness w may honest 16;"
                + "witness v knows x may turns 16;witness u may honest 16;witness s knows x may silent 16;");
        Court.given(y, "nobody was asked", y.liars(), 0);
        y.hear(1, 0, 2);
        Court.given(y, "v, who turns, means a", y.liars(), 2);
        y.hear(3, 1, 2);
        Court.given(y, "honest says p once in a", y.liars(), 2 + 8);
        Court.given(y, "left()", y.left(), 1);
    }
}
