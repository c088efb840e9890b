/** The edges of "==== 3.": which question to put, and how few are enough. */
public final class EdgePutTest {
    /** Asked r or s, w says p twice if honest in a or turning in b, else p once. */
    private static final String TURNING = "fact x has a b;question p fee 0 asks b;question r fee 0 asks a;"
            + "question s fee 0 asks a;witness w knows x may honest 15 turns 1;witness z may silent 16;";
    /** t, whether an even number of a, c, e, g is so, needs all four; z is silent, w knows all, v x and y alone. */
    private static final String EVEN = "fact x has a b;fact y has c d;fact u has e f;fact o has g h;"
            + "question p fee 0 asks a;question q fee 0 asks c;question r fee 0 asks e;question s fee 0 asks g;"
            + "question t fee 0 asks (a and c or b and d) and (e and g or f and h)"
            + " or (a and d or b and c) and (e and h or f and g);"
            + "witness z may silent 16;witness v knows x y may honest 16;witness w knows x y u o may honest 16;";

    public static void main(String[] args) {
        worst();
        answersThatMayCome();
        best();
        lastOne();
        howMany();
        firstToBePut();
        nonePutTwice();
        daysDoNotMatter();
        lastSaying();
        settled();
        Court.end("EdgePutTest");
    }

    private static void worst() {
        Sentences.terms("WORST of a QUESTION put to a WITNESS: the most WORLDS that can be LEFT behind an answer that may come.");
        AskingCourt x = Court.of(EVEN);
        for (int q = 0; q < 5; q++) {
            Court.given(x, "one who is silent", x.worst(0, q), 16);
        }
        Court.given(x, "one who knows x", x.worst(1, 0), 8);
        Court.given(x, "one who knows y", x.worst(1, 1), 8);
        Court.given(x, "one who does not know u", x.worst(1, 2), 16);
        Court.given(x, "one who knows all", x.worst(2, 4), 8);
        x.hear(2, 0, 0);
        x.hear(2, 1, 2);
        x.hear(2, 2, 4);
        Court.given(x, "left()", x.left(), 2);
        Court.given(x, "two are left, one behind each", x.worst(2, 3), 1);
        Court.given(x, "two are left", x.worst(0, 3), 2);
        x.hear(2, 3, 6);
        Court.given(x, "one is left", x.worst(0, 4), 1);
        Court.refused(x, "put already", x.worst(0, 3), 7);
        Court.refused(x, "put already, to another", x.worst(1, 0), 7);
        x.hear(0, 4, 1);
        Court.refused(x, "none is left, and all were put", x.worst(0, 4), 6);
        x.unsay();
        Court.given(x, "not put any more", x.worst(0, 4), 1);
    }

    /** Behind p twice w is honest in a or turns in b. */
    private static void answersThatMayCome() {
        Sentences.terms("behind an answer that may come");
        AskingCourt x = Court.of(TURNING);
        Court.given(x, "each world may give either", x.worst(0, 1), 2);
        Court.given(x, "each world may give either", x.worst(0, 2), 2);
        x.hear(0, 1, 1);
        Court.given(x, "both say p twice again", x.worst(0, 2), 2);
        Court.given(x, "each says another thing", x.worst(0, 0), 1);
        Court.given(x, "an echo of another", x.worst(1, 0), 2);
    }

    private static void best() {
        Sentences.terms("BEST for a WITNESS: of QUESTIONS not put yet that with the least WORST, the first.");
        AskingCourt x = Court.of(EVEN);
        Court.given(x, "all are alike", x.best(0), 0);
        Court.given(x, "two are alike", x.best(1), 0);
        x.hear(0, 0, 0);
        Court.given(x, "the first not put", x.best(0), 1);
        Court.given(x, "the least", x.best(1), 1);
        x.hear(0, 1, 2);
        Court.given(x, "no longer x or y", x.best(1), 2);
        AskingCourt y = Court.of("fact x has a b c d;question n fee 0 asks a and b;question p fee 0 asks a;"
                + "question r fee 0 asks a or b;question s fee 0 asks c or d;witness w knows x may honest 16;");
        Court.given(y, "worst(0, 0)", y.worst(0, 0), 4);
        Court.given(y, "worst(0, 1)", y.worst(0, 1), 3);
        Court.given(y, "worst(0, 2)", y.worst(0, 2), 2);
        Court.given(y, "worst(0, 3)", y.worst(0, 3), 2);
        Court.given(y, "the least, and its first", y.best(0), 2);
        y.hear(0, 2, 2);
        Court.given(y, "left()", y.left(), 1);
        Court.given(y, "one is left, and all are alike", y.best(0), 0);
        AskingCourt z = Court.of("fact a has b c d e;fact f has g h i j;fact k has l m n o;fact p has q r s t;"
                + "question u fee 0 asks b;question v fee 0 asks t;witness w may silent 16;");
        Court.given(z, "worst(0, 1)", z.worst(0, 1), 256);
        Court.given(z, "all of 256 are left behind each", z.best(0), 0);
        z.hear(0, 0, 0);
        Court.given(z, "and behind the last", z.best(0), 1);
        Court.refused(z, "by one who is silent", z.shortest(1, 0), 6);
        AskingCourt u = Court.of("fact a has b c d e;fact f has g h i j;fact k has l m n o;fact p has q r s t;"
                + "question u fee 0 asks b;question v fee 0 asks t;question w fee 0 asks o;question x fee 0 asks c;"
                + "witness y may silent 16;witness z knows a f k p may honest 16;");
        Court.refused(u, "all are left behind three", u.shortest(3, 0), 6);
        Court.given(u, "by one who knows", u.shortest(3, -1), 1);
    }

    private static void lastOne() {
        Sentences.promise(35, "6: none is LEFT, all were put");
        AskingCourt x = Court.of(TURNING);
        x.hear(1, 0, 0);
        x.hear(1, 2, 4);
        Court.given(x, "one is not put", x.best(0), 1);
        x.hear(1, 1, 2);
        Court.refused(x, "all were put", x.best(0), 6);
        x.unsay();
        Court.given(x, "one is not put", x.best(1), 1);
        x.hear(1, 1, 3);
        Court.refused(x, "none is left", x.best(1), 6);
        x.unsay();
        x.unsay();
        x.hear(1, 2, 0);
        Court.given(x, "left()", x.left(), 0);
        Court.refused(x, "none is left, one not put", x.best(1), 6);
        AskingCourt y = Court.of("witness w may honest 16;");
        Court.refused(y, "there are none", y.best(0), 6);
    }

    private static void first(AskingCourt x, int witness, int question) {
        Court.given(x, "shortestFirst(0)", x.shortestFirst(0), witness);
        Court.given(x, "shortestFirst(1)", x.shortestFirst(1), question);
    }

    private static void notBySoFew(AskingCourt x, int question, int witness) {
        Court.refused(x, "shortest(" + question + ", " + witness + ")", x.shortest(question, witness), 6);
    }

    private static void howMany() {
        Sentences.terms("SHORTEST to a QUESTION: the fewest (0 to 2 to any WITNESS, 0 to 3 to one told)");
        AskingCourt x = Court.of(EVEN);
        Court.refused(x, "ahead of any", x.shortestFirst(0), 6);
        Court.given(x, "t itself is one", x.shortest(4, 2), 1);
        first(x, 2, 4);
        Court.given(x, "t itself is one", x.shortest(4, -1), 1);
        first(x, 2, 4);
        x.hear(0, 4, 8);
        notBySoFew(x, 4, 2);
        notBySoFew(x, 4, -1);
        first(x, 2, 4);
        x.hear(2, 1, 2);
        Court.given(x, "three to one told", x.shortest(4, 2), 3);
        first(x, 2, 0);
        notBySoFew(x, 4, -1);
        notBySoFew(x, 4, 1);
        notBySoFew(x, 4, 0);
        first(x, 2, 0);
        x.hear(2, 3, 7);
        Court.given(x, "two to one told", x.shortest(4, 2), 2);
        first(x, 2, 0);
        notBySoFew(x, 4, 1);
        Court.given(x, "two to any", x.shortest(4, -1), 2);
        first(x, 1, 0);
        x.hear(1, 0, 0);
        Court.given(x, "one to one told", x.shortest(4, 2), 1);
        first(x, 2, 2);
        Court.given(x, "one to any", x.shortest(4, -1), 1);
        first(x, 2, 2);
        notBySoFew(x, 4, 1);
        x.hear(2, 2, 5);
        Court.given(x, "none to one told", x.shortest(4, 0), 0);
        Court.refused(x, "it was 0", x.shortestFirst(0), 6);
        Court.given(x, "none to any", x.shortest(4, -1), 0);
        Court.refused(x, "it was 0", x.shortestFirst(1), 6);
        x.unsay();
        Court.refused(x, "still 0", x.shortestFirst(0), 6);
        x.hear(2, 2, 3);
        Court.given(x, "left()", x.left(), 0);
        notBySoFew(x, 4, 2);
    }

    private static void firstToBePut() {
        Sentences.terms("the first to be put: the least WITNESS, then QUESTION, with which so few are enough");
        AskingCourt x = Court.of("fact x has a b;question n fee 0 asks a and b;question p fee 0 asks a;question r fee 0 asks b;"
                + "witness z may silent 16;witness w knows x may honest 16;witness v knows x may honest 16;");
        Court.given(x, "shortest(2, -1): to n all say n twice", x.shortest(2, -1), 1);
        first(x, 1, 1);
        Court.given(x, "shortest(2, 2)", x.shortest(2, 2), 1);
        first(x, 2, 1);
        Court.given(x, "sure already", x.shortest(0, 0), 0);
        Court.refused(x, "it was 0", x.shortestFirst(0), 6);
        x.hear(0, 0, 0);
        Court.given(x, "shortest(2, -1)", x.shortest(2, -1), 1);
        first(x, 1, 1);
        x.hear(0, 1, 2);
        Court.given(x, "shortest(1, -1)", x.shortest(1, -1), 1);
        first(x, 1, 2);
        Court.court(x, "");
        first(x, 1, 2);
    }

    private static void nonePutTwice() {
        Sentences.terms("each put by what was heard till then, none put twice, such that it is SURE then whatever is answered");
        AskingCourt x = Court.of(EVEN);
        x.hear(0, 4, 8);
        x.hear(2, 1, 2);
        x.hear(2, 3, 7);
        Court.given(x, "two are enough", x.shortest(4, 2), 2);
        x.hear(0, 0, 0);
        notBySoFew(x, 4, 2);
        notBySoFew(x, 4, -1);
        AskingCourt y = Court.of("fact x has a b;fact y has c d;question t fee 0 asks b;question p fee 0 asks a;"
                + "witness w knows x may honest 8 silent 8;witness v knows x may honest 16;");
        notBySoFew(y, 0, 0);
        Court.given(y, "who is never silent", y.shortest(0, 1), 1);
        first(y, 1, 0);
        y.hear(0, 0, 0);
        notBySoFew(y, 0, 0);
        Court.given(y, "who is never silent", y.shortest(0, -1), 1);
        first(y, 1, 1);
        AskingCourt u = Court.of("fact x has a b;fact y has c d;question p fee 0 asks a and c;"
                + "witness w knows x may honest 16;witness v knows y may honest 16;");
        Court.given(u, "w tells b", u.answer(0, 0, 2, 0), 1);
        Court.given(u, "v tells d", u.answer(1, 0, 1, 0), 1);
        notBySoFew(u, 0, -1);
        AskingCourt z = Court.of("fact x has a b;fact y has c d;fact u has e f;question p fee 0 asks a;question q fee 0 asks c;"
                + "question r fee 0 asks e;question t fee 0 asks a and c or b and e;"
                + "witness z may silent 16;witness w knows x y u may honest 16;");
        z.hear(0, 3, 6);
        Court.given(z, "behind a it is q, behind b r", z.shortest(3, 1), 2);
        first(z, 1, 0);
        Court.given(z, "to any", z.shortest(3, -1), 2);
        first(z, 1, 0);
    }

    private static void daysDoNotMatter() {
        Sentences.terms("(Days do not matter here.)");
        StringBuilder text = new StringBuilder("fact x has a b;witness z may silent 16;witness w knows x may honest 16;");
        for (int q = 0; q < 12; q++) {
            text.append("question q").append((char) ('a' + q)).append(" fee 0 asks a;");
        }
        AskingCourt x = Court.of(text.toString());
        for (int q = 0; q < 9; q++) {
            x.hear(0, q, 2 * q);
        }
        Court.refused(x, "no more on this day", x.hear(1, 9, 0), 4);
        Court.given(x, "shortest(0, 1)", x.shortest(0, 1), 1);
        first(x, 1, 9);
        Court.given(x, "best(1)", x.best(1), 9);
        Court.given(x, "worst(1, 11)", x.worst(1, 11), 1);
        x.nextDay();
        for (int q = 9; q < 11; q++) {
            x.hear(0, q, 2 * q);
        }
        Court.given(x, "shortest(0, -1)", x.shortest(0, -1), 1);
        first(x, 1, 11);
        x.hear(0, 11, 22);
        notBySoFew(x, 0, 1);
    }

    /** In b all that w can say is the last question twice, the largest answer there is. */
    private static void lastSaying() {
        Sentences.terms("such that it is SURE then whatever is answered");
        StringBuilder text = new StringBuilder("fact x has a b;fact y has c d;fact u has e f;");
        for (int q = 0; q < 8; q++) {
            text.append("question q").append((char) ('a' + q)).append(" fee 0 asks a or b;");
        }
        text.append("question t fee 0 asks a and c or b and (c and e or d and f);question q fee 0 asks c;"
                + "question r fee 0 asks e;question p fee 0 asks a;witness z may silent 16;witness w knows x y u may honest 16;");
        AskingCourt x = Court.of(text.toString());
        for (int w = 0; w < 8; w++) {
            Court.given(x, "answer(1, 11, " + w + ", 0)", x.answer(1, 11, w, 0), w < 4 ? 22 : 23);
        }
        Court.given(x, "worst(1, 11)", x.worst(1, 11), 4);
        x.hear(0, 8, 16);
        Court.given(x, "behind b two more", x.shortest(8, 1), 3);
        first(x, 1, 9);
        notBySoFew(x, 8, -1);
        x.hear(1, 9, 18);
        Court.given(x, "the last first", x.shortest(8, 1), 2);
        first(x, 1, 10);
        x.hear(1, 11, 23);
        Court.given(x, "left()", x.left(), 2);
        Court.given(x, "one more", x.shortest(8, -1), 1);
        first(x, 1, 10);
        StringBuilder four = new StringBuilder("fact x has a b c d;witness w knows x may honest 16;");
        for (int q = 0; q < 12; q++) {
            four.append("question q").append((char) ('a' + q)).append(q < 11 ? " fee 0 asks a or b or c or d;" : " fee 0 asks a;");
        }
        AskingCourt y = Court.of(four.toString());
        Court.given(y, "three behind the last saying", y.worst(0, 11), 3);
        Court.given(y, "best(0)", y.best(0), 11);
        Court.given(y, "hear(0, 11, 23)", y.hear(0, 11, 23));
        Court.given(y, "left()", y.left(), 3);
        Court.given(y, "fits(0, 0, 3)", y.fits(0, 0, 3), 1);
    }

    private static void settled() {
        Sentences.terms("SETTLED: how many QUESTIONS that were not put are SURE.");
        AskingCourt x = Court.of(EVEN);
        Court.given(x, "settled()", x.settled(), 0);
        x.hear(2, 0, 0);
        Court.given(x, "p is sure, but was put", x.settled(), 0);
        x.unsay();
        x.hear(2, 4, 8);
        Court.given(x, "t is sure, but was put", x.settled(), 0);
        x.hear(2, 0, 0);
        x.hear(2, 1, 2);
        x.hear(2, 2, 4);
        Court.given(x, "s is sure, and was not put", x.settled(), 1);
        x.hear(2, 3, 1);
        Court.given(x, "left()", x.left(), 0);
        Court.given(x, "none is left", x.settled(), 0);
        AskingCourt y = new AskingCourt();
        Court.given(y, "no questions", y.settled(), 0);
    }
}
