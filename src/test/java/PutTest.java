/** Promises 34 to 38: which question to put. */
public final class PutTest {
    /** No answer tells more than whether what was put is so: u needs all three others, t both. */
    private static final String THREE = "fact x has a b;fact y has c d;fact z has e f;"
            + "question p fee 0 asks a;question q fee 0 asks c;question r fee 0 asks e;"
            + "question u fee 0 asks a and c and e or b and d and f;"
            + "witness s may silent 16;witness w knows x y z may honest 16;";
    private static final String TWO = "fact x has a b;fact y has c d;"
            + "question p fee 0 asks a;question q fee 0 asks c;question t fee 0 asks a and d or b and c;"
            + "witness s may silent 16;witness w knows x y may honest 16;";
    /** Behind a one more is enough, behind b it takes two. */
    private static final String UNLIKE = "fact x has a b;fact y has c d;fact z has e f;"
            + "question p fee 0 asks a;question q fee 0 asks c;question r fee 0 asks e;"
            + "question u fee 0 asks a and c or b and (c and e or d and f);"
            + "witness s may silent 16;witness w knows x y z may honest 16;";

    public static void main(String[] args) {
        worstAndBest();
        shortestOfOne();
        shortestOfMore();
        ties();
        wrongInputs();
        Court.end("PutTest");
    }

    private static void worstAndBest() {
        AskingCourt x = Court.of(HearTest.CASE);
        int[][] due = {{6, 3, 6}, {6, 6, 6}};
        for (int witness = 0; witness < 2; witness++) {
            for (int question = 0; question < 3; question++) {
                String call = "worst(" + witness + ", " + question + ")";
                Court.given(x, call, x.worst(witness, question), due[witness][question]);
            }
        }
        Court.given(x, "best(0)", x.best(0), 1);
        Court.given(x, "the first of alike ones", x.best(1), 0);
        x.hear(0, 1, 1);
        Court.refused(x, "worst(0, 1)", x.worst(0, 1), 7);
        Court.refused(x, "worst(1, 1)", x.worst(1, 1), 7);
        Court.given(x, "worst(0, 0): honest says not p", x.worst(0, 0), 3);
        Court.given(x, "worst(1, 2): other says not p", x.worst(1, 2), 3);
        Court.given(x, "best(0)", x.best(0), 0);
        x.hear(0, 0, 1);
        Court.given(x, "best(0)", x.best(0), 2);
        x.hear(0, 2, 4);
        Court.refused(x, "all were put", x.best(0), 6);
        Court.refused(x, "worst(0, 0)", x.worst(0, 0), 7);
        AskingCourt y = Court.of("fact a has b c d e;fact f has g h i j;fact k has l m n o;fact p has q r s t;"
                + "question u fee 0 asks b;witness w may silent 16;");
        Court.given(y, "all 256 worlds may be left", y.worst(0, 0), 256);
        Court.given(y, "best(0)", y.best(0), 0);
    }

    private static void first(AskingCourt x, int witness, int question) {
        Court.given(x, "shortestFirst(0)", x.shortestFirst(0), witness);
        Court.given(x, "shortestFirst(1)", x.shortestFirst(1), question);
    }

    private static void shortestOfOne() {
        AskingCourt x = Court.of(HearTest.CASE);
        Court.refused(x, "shortestFirst(0)", x.shortestFirst(0), 6);
        Court.given(x, "shortest(0, 0)", x.shortest(0, 0), 1);
        first(x, 0, 1);
        Court.given(x, "shortest(0, -1)", x.shortest(0, -1), 1);
        first(x, 0, 1);
        Court.refused(x, "who may be silent", x.shortest(0, 1), 6);
        first(x, 0, 1);
        Court.refused(x, "who knows too little", x.shortest(2, 0), 6);
        first(x, 0, 1);
        x.hear(0, 1, 1);
        Court.given(x, "shortest(0, 0)", x.shortest(0, 0), 0);
        Court.refused(x, "it was 0", x.shortestFirst(0), 6);
        Court.refused(x, "it was 0", x.shortestFirst(1), 6);
    }

    private static void shortestOfMore() {
        AskingCourt x = Court.of(THREE);
        Court.given(x, "asked itself", x.shortest(3, 1), 1);
        first(x, 1, 3);
        x.hear(0, 3, 6);
        Court.given(x, "three to one", x.shortest(3, 1), 3);
        first(x, 1, 0);
        Court.refused(x, "not by two to any", x.shortest(3, -1), 6);
        first(x, 1, 0);
        Court.given(x, "w says b by asking twice", x.hear(1, 0, 1));
        Court.given(x, "two to any", x.shortest(3, -1), 2);
        first(x, 1, 1);

        AskingCourt y = Court.of(TWO);
        y.hear(0, 2, 4);
        Court.given(y, "two to one", y.shortest(2, 1), 2);
        first(y, 1, 0);
        Court.given(y, "two to any", y.shortest(2, -1), 2);
        first(y, 1, 0);
        Court.refused(y, "who is silent", y.shortest(2, 0), 6);
        Court.given(y, "one", y.shortest(1, -1), 1);
        first(y, 1, 1);
        Court.given(y, "w says a by an echo", y.hear(1, 0, 0));
        Court.given(y, "one more", y.shortest(2, -1), 1);
        first(y, 1, 1);
        y.hear(0, 1, 2);
        Court.refused(y, "what is needed was put to another", y.shortest(2, -1), 6);

        AskingCourt z = Court.of(UNLIKE);
        z.hear(0, 3, 6);
        Court.given(z, "not by two behind each answer", z.shortest(3, 1), 3);
        first(z, 1, 0);
        Court.refused(z, "not by two to any", z.shortest(3, -1), 6);
    }

    /** Of two who know the same the first is asked; of two questions the first. */
    private static void ties() {
        AskingCourt x = Court.of("fact x has a b;question p fee 0 asks a;question q fee 0 asks b;"
                + "question r fee 0 asks a;witness s may silent 16;witness w knows x may honest 16;"
                + "witness v knows x may honest 16;");
        Court.given(x, "shortest(2, -1)", x.shortest(2, -1), 1);
        first(x, 1, 0);
        Court.given(x, "shortest(2, 2)", x.shortest(2, 2), 1);
        first(x, 2, 0);
        x.hear(0, 0, 0);
        Court.given(x, "shortest(2, 2)", x.shortest(2, 2), 1);
        first(x, 2, 1);
        for (int i = 0; i < 9; i++) {
            x.nextDay();
        }
        Court.given(x, "settled()", x.settled(), 0);
        x.hear(1, 1, x.answer(1, 1, 0, 0));
        Court.given(x, "settled(): r alone was not put", x.settled(), 1);
    }

    private static void wrongInputs() {
        AskingCourt x = Court.of(HearTest.CASE);
        Court.refused(x, "worst(2, 0)", x.worst(2, 0), 1);
        Court.refused(x, "worst(-1, 0)", x.worst(-1, 0), 1);
        Court.refused(x, "worst(0, 3)", x.worst(0, 3), 1);
        Court.refused(x, "worst(0, -1)", x.worst(0, -1), 1);
        Court.refused(x, "best(2)", x.best(2), 1);
        Court.refused(x, "best(-1)", x.best(-1), 1);
        Court.refused(x, "shortest(3, 0)", x.shortest(3, 0), 1);
        Court.refused(x, "shortest(-1, 0)", x.shortest(-1, 0), 1);
        Court.refused(x, "shortest(0, 2)", x.shortest(0, 2), 1);
        Court.refused(x, "shortest(0, -2)", x.shortest(0, -2), 1);
        Court.refused(x, "shortestFirst(2)", x.shortestFirst(2), 1);
        Court.refused(x, "shortestFirst(-1)", x.shortestFirst(-1), 1);
        AskingCourt y = new AskingCourt();
        Court.refused(y, "best(0)", y.best(0), 1);
        Court.given(y, "settled()", y.settled(), 0);
    }
}
