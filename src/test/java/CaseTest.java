/** Promises 9 to 19: the tape, the text of a case, its faults, what the case tells. */
public final class CaseTest {
    private static final String TWO = "fact a has b c;";

    public static void main(String[] args) {
        tape();
        cutTexts();
        goodCase();
        edgesOfTokens();
        faultsOfTokens();
        faultsOfFacts();
        faultsOfQuestions();
        faultsOfWitnesses();
        limits();
        oldCaseStays();
        Court.end("CaseTest");
    }

    private static void tape() {
        AskingCourt x = new AskingCourt();
        for (int i = 1; i <= 45; i++) {
            Court.due("feed " + i, x.feed(0x20202020, 0x20202020, 0x20202020, 0x20202020, 0x20202020), 20 * i);
        }
        Court.due("a 46th feed", x.feed(0, 0, 0, 0, 0), -1);
        Court.due("feed() has no status", x.status(), 0);
        Court.refused(x, "court(-1)", x.court(-1), 1);
        Court.refused(x, "court(901)", x.court(901), 1);
        Court.due("fault(0) ahead of any", x.fault(0), -1);
        Court.refused(x, "plan(301)", x.plan(301), 1);
        Court.given(x, "court(900) of blanks", x.court(900), 1);
        Court.due("fault(0)", x.fault(0), 0);
        Court.due("fault(1)", x.fault(1), -1);
        Court.due("fault(2)", x.fault(2), -1);
        Court.due("fault(-1)", x.fault(-1), -1);
        Court.refused(x, "the tape is empty then", x.court(1), 1);
        Court.due("the highest byte first", x.feed(0x66616374, 0x80000000, 0, 0, 0), 20);
        Court.refused(x, "court(5)", x.court(5), 9);
        Court.due("fact is a token, 128 is none", x.fault(0), 1);
        Court.due("its place", x.fault(1), 4);
        Court.due("the tape is empty with 9, too", x.feed(0, 0, 0, 0, 0), 20);
        Court.refused(x, "court(21)", x.court(21), 1);
        Court.due("status 1 leaves fault()", x.fault(0), 1);
        Court.due("status 1 leaves the tape", x.feed(0, 0, 0, 0, 0), 40);
    }

    /** What stands on the tape behind the text, or at its very end, is no part of a token. */
    private static void cutTexts() {
        cut("fact a has b c 1", "2;", 2, 16);
        cut("fact a ha", "s b c;", 2, 7);
        cut("fact a has b c", "defghijk", 2, 14);
        cut("fact a has b ".concat(" ".repeat(886)).concat("c"), "", 2, 900);
        cut("fact a has b c ".concat(" ".repeat(884)).concat("9"), "", 2, 900);
    }

    private static void cut(String text, String rest, int kind, int place) {
        AskingCourt x = new AskingCourt();
        Court.feed(x, text + rest);
        Court.refused(x, text, x.court(text.length()), 9);
        Court.due(text + ": kind", x.fault(0), kind);
        Court.due(text + ": place", x.fault(1), place);
    }

    private static void goodCase() {
        AskingCourt x = Court.of("fact who has ann 3 bob;witness v may silent 16;fact where has mill inn barn 9;"
                + "never barn bob;never bob barn;question qa fee 0 asks ann;"
                + "question qb fee 99 asks not (bob and mill) and not not inn or barn;"
                + "witness w knows where who may turns 1 honest 2 silent 4 other 9 hides qb qa;");
        int[] told = {2, 5, 6, 2, 2, 0, 0, 0};
        for (int i = 0; i < told.length; i++) {
            Court.given(x, "told(" + i + ")", x.told(i), told[i]);
        }
        Court.refused(x, "told(8)", x.told(8), 1);
        Court.refused(x, "told(-1)", x.told(-1), 1);
        int[][] values = {{0, 3}, {0, 1}, {1, 1}, {1, 1}, {1, 9}};
        for (int v = 0; v < 5; v++) {
            Court.given(x, "value(" + v + ", 0)", x.value(v, 0), values[v][0]);
            Court.given(x, "value(" + v + ", 1)", x.value(v, 1), values[v][1]);
        }
        Court.refused(x, "value(5, 0)", x.value(5, 0), 1);
        Court.refused(x, "value(-1, 0)", x.value(-1, 0), 1);
        Court.refused(x, "value(0, 2)", x.value(0, 2), 1);
        Court.refused(x, "value(0, -1)", x.value(0, -1), 1);
        int[][] worlds = {{0, 2, 1, 1, 0}, {0, 3, 1, 1, 1}, {0, 4, 1, 1, 1}, {1, 2, 1, 0, 0}, {1, 3, 1, 0, 1},
            {1, 4, 0, 0, 0}};
        for (int w = 0; w < 6; w++) {
            Court.given(x, "world(" + w + ", 0)", x.world(w, 0), worlds[w][0]);
            Court.given(x, "world(" + w + ", 1)", x.world(w, 1), worlds[w][1]);
            Court.given(x, "possible(" + w + ")", x.possible(w), worlds[w][2]);
            Court.given(x, "holds(0, " + w + ")", x.holds(0, w), worlds[w][3]);
            Court.given(x, "holds(1, " + w + ")", x.holds(1, w), worlds[w][4]);
        }
        Court.refused(x, "world(6, 0)", x.world(6, 0), 1);
        Court.refused(x, "world(-1, 0)", x.world(-1, 0), 1);
        Court.refused(x, "world(0, 2)", x.world(0, 2), 1);
        Court.refused(x, "world(0, -1)", x.world(0, -1), 1);
        Court.refused(x, "possible(6)", x.possible(6), 1);
        Court.refused(x, "possible(-1)", x.possible(-1), 1);
        Court.refused(x, "holds(2, 0)", x.holds(2, 0), 1);
        Court.refused(x, "holds(-1, 0)", x.holds(-1, 0), 1);
        Court.refused(x, "holds(0, 6)", x.holds(0, 6), 1);
        Court.refused(x, "holds(0, -1)", x.holds(0, -1), 1);
        Court.given(x, "fee(0)", x.fee(0), 0);
        Court.given(x, "fee(1)", x.fee(1), 99);
        Court.refused(x, "fee(2)", x.fee(2), 1);
        Court.refused(x, "fee(-1)", x.fee(-1), 1);
        int[][] witnesses = {{0, 0, 0, 16, 0, 0}, {2, 1, 9, 4, 3, 3}};
        for (int what = 0; what < 6; what++) {
            Court.given(x, "witness(0, " + what + ")", x.witness(0, what), witnesses[0][what]);
            Court.given(x, "witness(1, " + what + ")", x.witness(1, what), witnesses[1][what]);
        }
        Court.refused(x, "witness(0, 6)", x.witness(0, 6), 1);
        Court.refused(x, "witness(0, -1)", x.witness(0, -1), 1);
        Court.refused(x, "witness(2, 0)", x.witness(2, 0), 1);
        Court.refused(x, "witness(-1, 0)", x.witness(-1, 0), 1);
    }

    private static void edgesOfTokens() {
        Court.good("", 1);
        Court.good(" \n ", 1);
        Court.good("fact a has b1c0002;", 2);
        Court.good("fact\nabcdefgh\nhas\n\nijklmnop b ;", 2);
        Court.good("fact a has b c;fact d has e f;never b e;never b f;never c e;never c f;", 0);
        Court.good(TWO + "question q fee 0000 asks b;", 2);
        Court.good(TWO + "question q fee 1 asks not not not not not not b;", 2);
        Court.good(TWO + "question q fee 1 asks ((not(not(b))));", 2);
        Court.good("witness w may honest 16;", 1);
    }

    private static void faultsOfTokens() {
        Court.fault(1, "", "\t");
        Court.fault(1, "", "Fact a has b c;");
        Court.fault(1, "fact a", "-b has");
        Court.fault(1, "fact a has b c", "\u00e9;");
        Court.fault(1, "fact a has b ", "00001;");
        Court.fault(1, "fact a has b", "\u0000");
        Court.fault(2, "", ";");
        Court.fault(2, "", "12");
        Court.fault(2, "", "a");
        Court.fault(2, TWO, ";");
        Court.fault(2, "fact", "");
        Court.fault(2, "fact a has b c  \n ", "");
        Court.fault(2, TWO + " ", "has");
        Court.fault(2, TWO, "ask w q;");
    }

    private static void faultsOfFacts() {
        Court.fault(2, "fact ", "left has b c;");
        Court.fault(2, "fact ", "7 has b c;");
        Court.fault(2, "fact ", "abcdefghi has b c;");
        Court.fault(3, TWO + "fact ", "a has d e;");
        Court.fault(3, TWO + "fact ", "c has d e;");
        Court.fault(2, "fact a ", "b c;");
        Court.fault(2, "fact a has", ";");
        Court.fault(2, "fact a has ", "3 b c;");
        Court.fault(3, "fact a has ", "a b;");
        Court.fault(3, "fact a has b c ", "b;");
        Court.fault(2, "fact a has b 3 ", "4 c;");
        Court.fault(4, "fact a has b ", "0 c;");
        Court.fault(4, "fact a has b c ", "10;");
        Court.fault(2, "fact a has b c ", "(");
        Court.fault(2, "fact a has b c ", "never b c;");
        Court.fault(6, "fact a has b c d e f g ", "h;");
        Court.fault(3, "fact a has b c d e f g ", "g;");
        Court.fault(2, "fact a has b c d e f g ", "or;");
        Court.fault(8, "fact a has b", ";");
        Court.fault(8, "fact a has b 9 ", ";");
        Court.fault(2, "fact a has b", "");
        Court.fault(1, "fact a has b", "?");
        String three = "fact a has b c d e f g;fact h has i j k l m n;fact o has p q r s t u;";
        Court.fault(8, three + "fact v has w x", ";");
        Court.fault(2, three + "fact v has w x", ")");
        Court.fault(7, TWO + "question q fee 1 asks b;", "fact d has e f;");
        Court.fault(6, TWO + "fact d has e f;fact g has h i;fact j has k l;question q fee 1 asks b;", "fact m has n o;");
        Court.fault(2, "never ", ";");
        Court.fault(3, "never ", "a b;");
        Court.fault(3, TWO + "never ", "a b;");
        Court.fault(3, TWO + "never b ", "d;");
        Court.fault(5, TWO + "never b ", "c;");
        Court.fault(5, TWO + "never b ", "b;");
        Court.fault(2, TWO + "fact d has e f;never b e ", "c;");
        Court.fault(7, TWO + "fact d has e f;question q fee 1 asks b;", "never b e;");
    }

    private static void faultsOfQuestions() {
        Court.fault(2, TWO + "question ", "fee fee 1 asks b;");
        Court.fault(3, TWO + "question ", "b fee 1 asks b;");
        Court.fault(2, TWO + "question q ", "asks b;");
        Court.fault(2, TWO + "question q fee ", "asks b;");
        Court.fault(4, TWO + "question q fee ", "100 asks b;");
        Court.fault(2, TWO + "question q fee 1 ", "b;");
        Court.fault(2, TWO + "question q fee 1 asks", ";");
        Court.fault(3, TWO + "question q fee 1 asks ", "q;");
        Court.fault(3, TWO + "question q fee 1 asks ", "a;");
        Court.fault(2, TWO + "question q fee 1 asks ", "abcdefghi;");
        Court.fault(2, TWO + "question q fee 1 asks b ", "c;");
        Court.fault(2, TWO + "question q fee 1 asks b or ", "or c;");
        Court.fault(2, TWO + "question q fee 1 asks b and", ";");
        Court.fault(2, TWO + "question q fee 1 asks not", ";");
        Court.fault(2, TWO + "question q fee 1 asks b", ");");
        Court.fault(2, TWO + "question q fee 1 asks (b or c", ";");
        Court.fault(2, TWO + "question q fee 1 asks (b", "");
        Court.fault(7, TWO + "question q fee 1 asks ((((((", "(b)))))));");
        Court.fault(7, TWO + "question q fee 1 asks not(not(not(", "not b)));");
        Court.fault(2, TWO + "question q fee 1 asks not(not(not(", ")));");
    }

    private static void faultsOfWitnesses() {
        Court.fault(2, "witness ", "may honest 16;");
        Court.fault(3, TWO + "witness ", "b may honest 16;");
        Court.fault(2, "witness w ", "honest 16;");
        Court.fault(2, TWO + "witness w knows ", "may honest 16;");
        Court.fault(3, TWO + "witness w knows ", "b may honest 16;");
        Court.fault(3, "witness w knows ", "w may honest 16;");
        Court.fault(5, TWO + "witness w knows a ", "a may honest 16;");
        Court.fault(2, TWO + "witness w knows a", ";");
        Court.fault(2, "witness w may", ";");
        Court.fault(2, "witness w may ", "w 16;");
        Court.fault(2, "witness w may honest", ";");
        Court.fault(2, "witness w may honest ", "turns 16;");
        Court.fault(4, "witness w may honest ", "0 turns 16;");
        Court.fault(4, "witness w may honest ", "17;");
        Court.fault(5, "witness w may honest 8 turns 4 ", "honest 4;");
        Court.fault(8, "witness w may honest 8 turns 4", ";");
        Court.fault(8, "witness w may honest 16 turns 16 other 16 silent 16", ";");
        Court.fault(8, TWO + "question q fee 1 asks b;witness w may honest 15 ", "hides q;");
        Court.fault(2, "witness w may honest 15 ", "16;");
        Court.fault(2, "witness w may honest 15", "");
        Court.fault(1, "witness w may honest 15 ", "#");
        Court.fault(2, "witness w may honest 16 hides", ";");
        Court.fault(3, TWO + "witness w may honest 16 hides ", "b;");
        Court.fault(5, TWO + "question q fee 1 asks b;witness w may honest 16 hides q ", "q;");
        Court.fault(2, TWO + "question q fee 1 asks b;witness w may honest 16 hides q ", "may;");
    }

    private static void limits() {
        StringBuilder text = new StringBuilder(TWO);
        for (int q = 0; q < 12; q++) {
            text.append("question q").append((char) ('a' + q)).append(" fee 1 asks b;");
        }
        Court.good(text.toString(), 2);
        Court.fault(6, text.toString(), "question z fee 1 asks b;");
        String four = "witness a may honest 16;witness b may honest 16;witness c may honest 16;witness d may honest 16;";
        Court.good(four, 1);
        Court.fault(6, four, "witness e may honest 16;");
        String facts = TWO + "fact d has e f;fact g has h i;fact j has k l;";
        Court.good(facts, 16);
        Court.fault(6, facts, "fact m has n o;");
        Court.good("fact a has b c d e;fact f has g h i j;fact k has l m n o;fact p has q r s t;", 256);
        StringBuilder nevers = new StringBuilder(TWO + "fact d has e f;");
        for (int i = 0; i < 60; i++) {
            nevers.append("never b e;");
        }
        Court.good(nevers.toString(), 3);
    }

    private static void oldCaseStays() {
        AskingCourt x = Court.of(TWO + "question q fee 5 asks b;witness w knows a may honest 16;");
        Court.plan(x, "rule q;");
        x.hear(0, 0, 1);
        x.nextDay();
        Court.refused(x, "a fault", Court.court(x, TWO + "fact"), 9);
        Court.given(x, "told(3)", x.told(3), 1);
        Court.given(x, "told(5)", x.told(5), 1);
        Court.given(x, "told(6)", x.told(6), 1);
        Court.given(x, "left()", x.left(), 1);
        Court.given(x, "the plan is there", x.sit(0), 0);
        Court.given(x, "a new case", Court.court(x, TWO), 2);
        Court.given(x, "told(3)", x.told(3), 0);
        Court.given(x, "told(5)", x.told(5), 0);
        Court.given(x, "told(6)", x.told(6), 0);
        Court.given(x, "left()", x.left(), 2);
        Court.refused(x, "no plan is there", x.sit(0), 6);
        for (int i = 0; i < 6; i++) {
            Court.given(x, "a case of three values", Court.court(x, "fact x has a b c;"), 3);
        }
        Court.refused(x, "c is no value any more", Court.court(x, "fact x has a b;never a c;"), 9);
        Court.due("kind", x.fault(0), 3);
        Court.due("place", x.fault(1), 23);
    }
}
