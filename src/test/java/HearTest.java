/** Promises 21 to 33 and 39 to 41: what is heard, what is left by it, and what another bench makes of it. */
public final class HearTest {
    /** Worlds 0 to 5: a c, a d, a e, b c, b d, b e, of the weights 2, 2, 6, 1, 1, 3. */
    static final String CASE = "fact x has a 2 b;fact y has c d e 3;"
            + "question p fee 1 asks a;question r fee 10 asks a and c;question s fee 20 asks c or d;"
            + "witness w knows x may honest 12 turns 4;"
            + "witness v knows x y may honest 8 other 4 silent 4;";

    private static final String PROOFS = "fact x has a b;fact y has c d;"
            + "question p fee 0 asks a;question r fee 0 asks c;question t fee 0 asks a and c;"
            + "question u fee 0 asks a or not a;question s fee 0 asks not (a and d);"
            + "witness w knows x may honest 16;witness v knows y may honest 16;witness z may silent 16;";

    public static void main(String[] args) {
        nothingHeard();
        oneHeard();
        twoHeard();
        noneLeft();
        nonePossible();
        twelveHeard();
        days();
        wrongInputs();
        proofs();
        honestWhoMayNotBe();
        Court.end("HearTest");
    }

    private static void fraction(AskingCourt x, String call, boolean good, long top, long bottom) {
        Court.given(x, call, good);
        Court.due(call + ", then top()", x.top(), top);
        Court.due(call + ", then bottom()", x.bottom(), bottom);
    }

    private static void nothingHeard() {
        AskingCourt x = Court.of(CASE);
        Court.given(x, "left()", x.left(), 6);
        Court.refused(x, "sure(0)", x.sure(0), 6);
        Court.refused(x, "because(0)", x.because(0), 6);
        fraction(x, "chance(0)", x.chance(0), 2, 3);
        fraction(x, "chance(1)", x.chance(1), 2, 15);
        fraction(x, "chance(2)", x.chance(2), 2, 5);
        fraction(x, "trust(0, 0)", x.trust(0, 0), 3, 4);
        fraction(x, "trust(0, 2)", x.trust(0, 2), 0, 1);
        fraction(x, "trust(1, 3)", x.trust(1, 3), 1, 4);
        Court.given(x, "fits(0, 1, 0)", x.fits(0, 1, 0), 1);
        Court.given(x, "who may not be so", x.fits(0, 2, 0), 0);
        Court.given(x, "liars()", x.liars(), 0);
        Court.given(x, "bench()", x.bench(), 6);
        Court.refused(x, "clash()", x.clash(), 6);
    }

    private static void oneHeard() {
        AskingCourt x = Court.of(CASE);
        Court.given(x, "hear(0, 1, 1)", x.hear(0, 1, 1));
        Court.given(x, "left()", x.left(), 3);
        for (int world = 0; world < 6; world++) {
            Court.given(x, "isLeft(" + world + ")", x.isLeft(world), world / 3);
            Court.given(x, "fits(0, 0, " + world + ")", x.fits(0, 0, world), world / 3);
            Court.given(x, "fits(0, 1, " + world + ")", x.fits(0, 1, world), 0);
            Court.given(x, "fits(1, 0, " + world + ")", x.fits(1, 0, world), 1);
            Court.given(x, "fits(1, 1, " + world + ")", x.fits(1, 1, world), 0);
        }
        Court.given(x, "sure(0)", x.sure(0), 0);
        Court.given(x, "sure(1)", x.sure(1), 0);
        Court.refused(x, "sure(2)", x.sure(2), 6);
        fraction(x, "chance(0)", x.chance(0), 0, 1);
        fraction(x, "chance(2)", x.chance(2), 2, 5);
        fraction(x, "trust(0, 0)", x.trust(0, 0), 1, 1);
        fraction(x, "trust(0, 1)", x.trust(0, 1), 0, 1);
        fraction(x, "trust(1, 0)", x.trust(1, 0), 1, 2);
        Court.given(x, "because(0)", x.because(0), 1);
        Court.given(x, "gave(0)", x.gave(0), 3);
        Court.given(x, "fees(): 10, and p twice", x.fees(), 12);
        Court.given(x, "bench()", x.bench(), 3);
        Court.refused(x, "clash()", x.clash(), 6);
        Court.given(x, "told(6)", x.told(6), 1);
        int[] due = {0, 1, 1, 0};
        for (int what = 0; what < 4; what++) {
            Court.given(x, "heard(0, " + what + ")", x.heard(0, what), due[what]);
        }
    }

    private static void twoHeard() {
        AskingCourt x = Court.of(CASE);
        x.hear(0, 1, 1);
        x.nextDay();
        Court.given(x, "hear(1, 2, 1)", x.hear(1, 2, 1));
        Court.given(x, "heard(1, 3)", x.heard(1, 3), 1);
        Court.given(x, "left()", x.left(), 3);
        fraction(x, "trust(1, 2)", x.trust(1, 2), 1, 1);
        fraction(x, "trust(1, 0)", x.trust(1, 0), 0, 1);
        Court.given(x, "liars()", x.liars(), 2);
        Court.given(x, "bench()", x.bench(), 0);
        Court.given(x, "clash()", x.clash(), 1);
        Court.given(x, "gave(1)", x.gave(1), 3);
        Court.given(x, "fees()", x.fees(), 34);
        Court.given(x, "each alone would do, the first is less", x.because(0), 1);
        Court.given(x, "settled(): p alone was not put", x.settled(), 1);
        Court.given(x, "unsay()", x.unsay(), 1);
        Court.given(x, "liars()", x.liars(), 0);
        Court.given(x, "bench()", x.bench(), 3);
        Court.given(x, "told(7)", x.told(7), 0);
        Court.given(x, "it can be put again", x.hear(1, 2, 4));
        Court.given(x, "an echo costs once more", x.fees(), 12 + 40);
        Court.given(x, "told(7)", x.told(7), 1);
    }

    private static void noneLeft() {
        AskingCourt x = Court.of(CASE);
        fraction(x, "chance(0)", x.chance(0), 2, 3);
        x.hear(0, 0, 5);
        Court.given(x, "left()", x.left(), 0);
        Court.given(x, "isLeft(0)", x.isLeft(0), 0);
        Court.refused(x, "sure(0)", x.sure(0), 6);
        Court.refused(x, "because(0)", x.because(0), 6);
        Court.refused(x, "chance(1)", x.chance(1), 6);
        Court.refused(x, "trust(0, 0)", x.trust(0, 0), 6);
        Court.due("top() stays", x.top(), 2);
        Court.due("bottom() stays", x.bottom(), 3);
        Court.refused(x, "liars()", x.liars(), 6);
        Court.given(x, "settled()", x.settled(), 0);
        Court.given(x, "bench()", x.bench(), 0);
        Court.given(x, "clash()", x.clash(), 0);
        Court.given(x, "gave(0)", x.gave(0), 6);
        Court.refused(x, "worst(0, 1)", x.worst(0, 1), 6);
        Court.refused(x, "the first that holds: 6 ahead of 7", x.worst(0, 0), 6);
        Court.refused(x, "best(0)", x.best(0), 6);
        Court.refused(x, "shortest(0, -1)", x.shortest(0, -1), 6);
        Court.given(x, "unsay()", x.unsay(), 0);
        Court.given(x, "left()", x.left(), 6);
    }

    private static void nonePossible() {
        AskingCourt x = Court.of("fact x has a b;fact y has c d;never a c;never a d;never b c;never b d;"
                + "question q fee 1 asks a;witness w may honest 16;");
        Court.given(x, "left()", x.left(), 0);
        Court.given(x, "bench()", x.bench(), 0);
        Court.refused(x, "clash() of nothing", x.clash(), 6);
        Court.given(x, "hear(0, 0, 0)", x.hear(0, 0, 0));
        Court.given(x, "clash()", x.clash(), 0);
        Court.given(x, "gave(0)", x.gave(0), 0);
        Court.refused(x, "fits(0, 0, 0)", x.fits(0, 0, 0), 7);
        Court.given(x, "a plan", Court.plan(x, "rule q;"), 1);
        Court.refused(x, "sit(0)", x.sit(0), 6);
        Court.refused(x, "tally(0, 1, 0)", x.tally(0, 1, 0), 6);
    }

    private static String twelveQuestions() {
        StringBuilder text = new StringBuilder("fact x has a b;witness w knows x may honest 16;");
        for (int q = 0; q < 12; q++) {
            text.append("question q").append((char) ('a' + q)).append(" fee ").append(q).append(" asks a;");
        }
        return text.toString();
    }

    /** Asked a question, w in world 0 says the first other one; so each answer alone is a proof. */
    private static void twelveHeard() {
        AskingCourt x = Court.of(twelveQuestions());
        int fees = 0;
        for (int q = 0; q < 12; q++) {
            int said = q == 0 ? 2 : 0;
            Court.given(x, "answer(0, " + q + ", 0, 0)", x.answer(0, q, 0, 0), said);
            Court.given(x, "hear(0, " + q + ", ..)", x.hear(0, q, said));
            fees += q + said / 2;
            if (q == 6) {
                x.nextDay();
            }
        }
        Court.given(x, "left()", x.left(), 1);
        Court.given(x, "because(11)", x.because(11), 1);
        Court.given(x, "gave(11)", x.gave(11), 1);
        Court.given(x, "fees()", x.fees(), fees);
        Court.given(x, "bench()", x.bench(), 1);
        Court.refused(x, "clash()", x.clash(), 6);
        Court.given(x, "settled()", x.settled(), 0);
        Court.refused(x, "best(0)", x.best(0), 6);
        Court.given(x, "shortest(0, 0)", x.shortest(0, 0), 0);
        Court.given(x, "heard(11, 1)", x.heard(11, 1), 11);
        Court.refused(x, "heard(12, 1)", x.heard(12, 1), 6);
    }

    private static void days() {
        AskingCourt x = Court.of(twelveQuestions());
        for (int q = 0; q < 9; q++) {
            Court.given(x, "hear(0, " + q + ", ..)", x.hear(0, q, 2 * q));
        }
        Court.given(x, "told(7)", x.told(7), 9);
        Court.refused(x, "a tenth on a day", x.hear(0, 9, 18), 4);
        Court.refused(x, "4 ahead of 7", x.hear(0, 0, 0), 4);
        Court.given(x, "unsay()", x.unsay(), 8);
        Court.refused(x, "put already", x.hear(0, 0, 0), 7);
        Court.given(x, "a ninth again", x.hear(0, 9, 18));
        Court.given(x, "nextDay()", x.nextDay(), 1);
        Court.given(x, "told(7)", x.told(7), 0);
        Court.refused(x, "put already, on another day", x.hear(0, 0, 0), 7);
        Court.given(x, "hear(0, 11, 22)", x.hear(0, 11, 22));
        Court.given(x, "hear(0, 8, 16)", x.hear(0, 8, 16));
        Court.given(x, "hear(0, 10, 20)", x.hear(0, 10, 20));
        Court.given(x, "told(6)", x.told(6), 12);
        Court.given(x, "unsay()", x.unsay(), 11);
        Court.given(x, "told(7)", x.told(7), 2);
        for (int day = 2; day <= 99; day++) {
            Court.given(x, "nextDay()", x.nextDay(), day);
        }
        Court.refused(x, "above 99", x.nextDay(), 4);
        Court.given(x, "told(5)", x.told(5), 99);
        for (int many = 10; many >= 0; many--) {
            Court.given(x, "unsay()", x.unsay(), many);
        }
        Court.refused(x, "unsay()", x.unsay(), 6);
        Court.given(x, "told(5)", x.told(5), 99);
    }

    private static void wrongInputs() {
        AskingCourt x = Court.of(CASE);
        Court.refused(x, "hear(2, 0, 0)", x.hear(2, 0, 0), 1);
        Court.refused(x, "hear(-1, 0, 0)", x.hear(-1, 0, 0), 1);
        Court.refused(x, "hear(0, 3, 0)", x.hear(0, 3, 0), 1);
        Court.refused(x, "hear(0, -1, 0)", x.hear(0, -1, 0), 1);
        Court.refused(x, "hear(0, 0, 6)", x.hear(0, 0, 6), 1);
        Court.refused(x, "hear(0, 0, -1)", x.hear(0, 0, -1), 1);
        Court.refused(x, "heard(0, 0)", x.heard(0, 0), 6);
        Court.refused(x, "heard(-1, 0)", x.heard(-1, 0), 6);
        Court.refused(x, "heard(0, 4)", x.heard(0, 4), 1);
        Court.refused(x, "heard(0, -1)", x.heard(0, -1), 1);
        Court.refused(x, "isLeft(6)", x.isLeft(6), 1);
        Court.refused(x, "isLeft(-1)", x.isLeft(-1), 1);
        Court.refused(x, "fits(2, 0, 0)", x.fits(2, 0, 0), 1);
        Court.refused(x, "fits(0, 4, 0)", x.fits(0, 4, 0), 1);
        Court.refused(x, "fits(0, -1, 0)", x.fits(0, -1, 0), 1);
        Court.refused(x, "fits(0, 0, 6)", x.fits(0, 0, 6), 1);
        Court.refused(x, "sure(3)", x.sure(3), 1);
        Court.refused(x, "sure(-1)", x.sure(-1), 1);
        Court.refused(x, "chance(3)", x.chance(3), 1);
        Court.refused(x, "chance(-1)", x.chance(-1), 1);
        Court.refused(x, "trust(2, 0)", x.trust(2, 0), 1);
        Court.refused(x, "trust(0, 4)", x.trust(0, 4), 1);
        Court.refused(x, "trust(0, -1)", x.trust(0, -1), 1);
        Court.refused(x, "because(3)", x.because(3), 1);
        Court.refused(x, "because(-1)", x.because(-1), 1);
        Court.refused(x, "gave(0)", x.gave(0), 6);
        Court.refused(x, "gave(-1)", x.gave(-1), 6);
        Court.given(x, "nothing was heard", x.told(6), 0);
    }

    /** Two of three answers are needed; the third says nothing. */
    private static void proofs() {
        AskingCourt x = Court.of(PROOFS);
        Court.given(x, "sure by nothing", x.because(3), 0);
        Court.given(x, "silent", x.hear(2, 3, 6));
        Court.given(x, "an echo means a here", x.hear(0, 0, 0));
        Court.refused(x, "sure(2)", x.sure(2), 6);
        Court.given(x, "an echo means c here", x.hear(1, 1, 2));
        Court.given(x, "sure(2)", x.sure(2), 1);
        Court.given(x, "because(2)", x.because(2), 6);
        Court.given(x, "because(4)", x.because(4), 4);
        Court.given(x, "because(0)", x.because(0), 2);
        Court.given(x, "because(1)", x.because(1), 4);
        Court.given(x, "because(3)", x.because(3), 0);
        Court.given(x, "gave(0)", x.gave(0), 0);
        Court.given(x, "gave(1)", x.gave(1), 2);
        Court.given(x, "settled()", x.settled(), 2);

        AskingCourt y = Court.of(PROOFS);
        y.hear(1, 1, 2);
        y.hear(2, 3, 6);
        y.hear(0, 0, 0);
        Court.given(y, "because(2)", y.because(2), 5);
        Court.given(y, "what was asked ahead does not matter", y.because(4), 1);
        Court.given(y, "because(2)", y.because(2), 5);
    }

    /** Another bench, and who is a liar, ask whether honest fits, not whether it may be. */
    private static void honestWhoMayNotBe() {
        AskingCourt x = Court.of("fact x has a b;question p fee 0 asks a;question r fee 0 asks b;"
                + "witness w knows x may turns 16;");
        Court.given(x, "liars()", x.liars(), 0);
        Court.given(x, "honest in world 0 says r twice", x.answer(0, 0, 0, 0), 3);
        Court.given(x, "turns in world 0 says r once", x.answer(0, 0, 0, 1), 2);
        Court.given(x, "turns in world 1 echoes", x.answer(0, 0, 1, 1), 0);
        Court.given(x, "hear(0, 0, 0)", x.hear(0, 0, 0));
        Court.given(x, "left()", x.left(), 1);
        Court.given(x, "liars()", x.liars(), 1);
        Court.given(x, "bench()", x.bench(), 0);
        Court.given(x, "clash()", x.clash(), 0);
        x.unsay();
        x.hear(0, 0, 3);
        Court.given(x, "left()", x.left(), 0);
        Court.given(x, "bench()", x.bench(), 1);
        Court.refused(x, "clash()", x.clash(), 6);
    }
}
