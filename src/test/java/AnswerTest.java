/** Promise 20: what each witness would ask back in each world, by its kind. */
public final class AnswerTest {
    /** Worlds 0 to 5: a c, a d, a e, b c, b d, b e. */
    private static final String CASE = "fact x has a b;fact y has c d e;"
            + "question p fee 1 asks a;question r fee 1 asks a and c;"
            + "question s fee 1 asks c or d;question t fee 1 asks c or not c;"
            + "witness w knows x may honest 16;witness v knows y x may honest 16;"
            + "witness u may silent 16;witness h knows x y may turns 16 hides p;";
    private static final int W = 0;
    private static final int V = 1;
    private static final int U = 2;
    private static final int H = 3;

    public static void main(String[] args) {
        AskingCourt x = Court.of(CASE);
        knowsOneFact(x);
        knowsAll(x);
        knowsNothing(x);
        hides(x);
        wrongInputs(x);
        fewerWorlds();
        Court.end("AnswerTest");
    }

    /** The answers of honest, turns, other; a silent one only echoes. */
    private static void row(AskingCourt x, int witness, int question, int world, int... due) {
        for (int kind = 0; kind < 4; kind++) {
            String call = "answer(" + witness + ", " + question + ", " + world + ", " + kind + ")";
            Court.given(x, call, x.answer(witness, question, world, kind), kind < 3 ? due[kind] : 2 * question);
        }
    }

    private static void knowsOneFact(AskingCourt x) {
        for (int world = 0; world < 3; world++) {
            row(x, W, 0, world, 0, 0, 0);
            row(x, W, 1, world, 2, 2, 0);
            row(x, W, 2, world, 4, 4, 0);
            row(x, W, 3, world, 0, 1, 6);
        }
        for (int world = 3; world < 6; world++) {
            row(x, W, 0, world, 1, 0, 3);
            row(x, W, 1, world, 1, 0, 2);
            row(x, W, 2, world, 4, 4, 1);
            row(x, W, 3, world, 1, 0, 6);
        }
    }

    private static void knowsAll(AskingCourt x) {
        row(x, V, 0, 0, 2, 3, 4);
        row(x, V, 1, 0, 2, 2, 0);
        row(x, V, 2, 0, 2, 3, 0);
        row(x, V, 3, 0, 0, 1, 6);
        row(x, V, 0, 1, 0, 0, 3);
        row(x, V, 1, 1, 3, 2, 0);
        row(x, V, 2, 1, 4, 4, 0);
        row(x, V, 0, 5, 1, 0, 3);
        row(x, V, 1, 5, 1, 0, 2);
        row(x, V, 2, 5, 5, 4, 1);
    }

    private static void knowsNothing(AskingCourt x) {
        for (int world = 0; world < 6; world++) {
            for (int question = 0; question < 4; question++) {
                row(x, U, question, world, 2 * question, 2 * question, 2 * question);
            }
        }
    }

    private static void hides(AskingCourt x) {
        row(x, H, 0, 0, 4, 4, 4);
        row(x, H, 0, 5, 3, 3, 3);
        row(x, H, 1, 0, 2, 2, 0);
        row(x, H, 2, 0, 2, 3, 0);
    }

    private static void wrongInputs(AskingCourt x) {
        Court.refused(x, "answer(4, 0, 0, 0)", x.answer(4, 0, 0, 0), 1);
        Court.refused(x, "answer(-1, 0, 0, 0)", x.answer(-1, 0, 0, 0), 1);
        Court.refused(x, "answer(0, 4, 0, 0)", x.answer(0, 4, 0, 0), 1);
        Court.refused(x, "answer(0, -1, 0, 0)", x.answer(0, -1, 0, 0), 1);
        Court.refused(x, "answer(0, 0, 6, 0)", x.answer(0, 0, 6, 0), 1);
        Court.refused(x, "answer(0, 0, -1, 0)", x.answer(0, 0, -1, 0), 1);
        Court.refused(x, "answer(0, 0, 0, 4)", x.answer(0, 0, 0, 4), 1);
        Court.refused(x, "answer(0, 0, 0, -1)", x.answer(0, 0, 0, -1), 1);
    }

    /** What can't be is in no meaning: b alone is never, so p has all that is possible with c. */
    private static void fewerWorlds() {
        AskingCourt x = Court.of("fact x has a b;fact y has c d;never b c;"
                + "question p fee 1 asks a;question r fee 1 asks c;witness w knows y may honest 16;");
        Court.refused(x, "answer(0, 0, 2, 0)", x.answer(0, 0, 2, 0), 7);
        Court.refused(x, "1 ahead of 7", x.answer(0, 0, 2, 4), 1);
        row(x, 0, 0, 0, 2, 3, 0);
        row(x, 0, 0, 1, 0, 0, 3);
        row(x, 0, 0, 3, 0, 0, 3);
        row(x, 0, 1, 0, 2, 2, 0);
        row(x, 0, 1, 1, 3, 2, 2);
    }
}
