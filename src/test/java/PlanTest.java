/** Promises 11 and 42 to 44: judges' plans as texts, in cases that are drawn. */
public final class PlanTest {
    private static final String CASE = "fact x has a b 3;question q fee 5 asks a;question r fee 7 asks b;"
            + "witness w knows x may honest 3 turns 13;";

    public static void main(String[] args) {
        goodPlans();
        faults();
        oldPlanStays();
        drawn();
        verdicts();
        whens();
        ninePutOnADay();
        tallies();
        heardStays();
        Court.end("PlanTest");
    }

    private static void goodPlans() {
        good("", 0);
        good("next;", 1);
        good("ask w q;best w;next;rule q;", 4);
        good("when sure q;end;", 1);
        good("when left 0;when left 256;when yes q;next;end;when no r;end;end;end;rule r;", 6);
        good("next;".repeat(30), 30);
        good("when left 1;" + "next;".repeat(29) + "end;", 30);
    }

    private static void good(String text, int steps) {
        AskingCourt x = Court.of(CASE);
        Court.given(x, text, Court.plan(x, text), steps);
        Court.due("fault(0)", x.fault(0), 0);
        Court.due("fault(1)", x.fault(1), -1);
        Court.due("the tape is empty", x.feed(0, 0, 0, 0, 0), 20);
    }

    private static void fault(int kind, String ahead, String at) {
        AskingCourt x = Court.of(CASE);
        Court.refused(x, ahead + at, Court.plan(x, ahead + at), 9);
        Court.due(ahead + at + ": kind", x.fault(0), kind);
        Court.due(ahead + at + ": place", x.fault(1), ahead.length());
        Court.due("the tape is empty", x.feed(0, 0, 0, 0, 0), 20);
    }

    private static void faults() {
        fault(1, "next;", "?");
        fault(1, "when left ", "12345;");
        fault(2, "", "w");
        fault(2, "", "fact a has b c;");
        fault(2, "", "sure q;");
        fault(2, "next", "");
        fault(2, "next ", "next;");
        fault(2, "", "nextnext;");
        fault(2, "ask ", "best;");
        fault(2, "ask w", ";");
        fault(2, "ask ", "abcdefghi q;");
        fault(3, "ask ", "q q;");
        fault(3, "ask w ", "w;");
        fault(3, "ask w ", "z;");
        fault(3, "best ", "q;");
        fault(3, "rule ", "a;");
        fault(2, "rule ", "3;");
        fault(2, "when ", "q;");
        fault(2, "when sure ", "3;");
        fault(2, "when left ", "q;");
        fault(4, "when left ", "257;");
        fault(3, "when yes ", "x;");
        fault(2, "when no q ", "next;");
        fault(2, "", "end;");
        fault(2, "when sure q;end;", "end;");
        fault(2, "when sure q;next;", "");
        fault(2, "when sure q;end", "");
        fault(6, "next;".repeat(30), "next;");
        fault(6, "next;".repeat(29) + "when sure q;", "next;end;");
        fault(7, "when sure q;when sure q;when sure q;next;", "when sure q;end;end;end;end;");
        fault(6, "next;".repeat(27) + "when yes q;when yes q;when yes q;", "when yes q;");
        fault(2, "next;".repeat(30), "fact;");
        AskingCourt x = Court.of(CASE);
        String text = "next;" + " ".repeat(296);
        Court.refused(x, "301 bytes", Court.plan(x, text), 1);
        Court.refused(x, "plan(-1)", x.plan(-1), 1);
        Court.given(x, "300 bytes", x.plan(300), 1);
        Court.refused(x, "nothing is on the tape", x.plan(1), 1);
    }

    private static void oldPlanStays() {
        AskingCourt x = Court.of(CASE);
        Court.refused(x, "no plan", x.sit(0), 6);
        Court.plan(x, "next;next;");
        Court.plan(x, "rule");
        Court.given(x, "sit(0)", x.sit(0), 2);
        Court.given(x, "sat(2)", x.sat(2), 2);
        Court.plan(x, "");
        Court.given(x, "a plan of no steps", x.sit(0), 2);
        Court.given(x, "sat(2)", x.sat(2), 0);
    }

    private static void sat(AskingCourt x, int... due) {
        for (int what = 0; what < due.length; what++) {
            Court.given(x, "sat(" + what + ")", x.sat(what), due[what]);
        }
    }

    /**
     * Seed 0: s becomes 10613, the draw by 4 is 1326 by 4: 2, so b; then s becomes 37658, the draw
     * by 16 is 4707 by 16: 3, so turns. Seed 1: 13030, 1628 by 4: 0, so a; then 47099, 5887 by 16: 15.
     */
    private static void drawn() {
        AskingCourt x = Court.of(CASE);
        Court.refused(x, "sat(0)", x.sat(0), 6);
        Court.plan(x, "ask w q;next;rule q;");
        Court.given(x, "sit(0)", x.sit(0), 0);
        sat(x, 1, 10, 1, 1, 1, 1);
        Court.given(x, "sit(1)", x.sit(1), 0);
        sat(x, 1, 5 + 7, 1, 0, 1, 1);
        Court.refused(x, "sit(-1)", x.sit(-1), 1);
        Court.refused(x, "sit(10000)", x.sit(10000), 1);
        sat(x, 1, 5 + 7, 1, 0, 1, 1);
        Court.refused(x, "sat(6)", x.sat(6), 1);
        Court.refused(x, "sat(-1)", x.sat(-1), 1);
        Court.given(x, "sit(9999)", x.sit(9999), 0);
        Court.court(x, "");
        Court.given(x, "sat() stays behind a new case", x.sat(0), 1);
    }

    /** With nothing known a half is enough for yes. */
    private static void verdicts() {
        AskingCourt x = Court.of("fact x has a b;question q fee 0 asks a;witness s may silent 16;");
        Court.plan(x, "ask s q;rule q;next;");
        int right = 0;
        for (int seed = 0; seed < 8; seed++) {
            int end = x.sit(seed);
            Court.given(x, "yes at a half: wrong in world 1", end, x.sat(3));
            right += end == 0 ? 1 : 0;
            sat(x, 1, 0, 0, x.sat(3), 2, 1);
        }
        Court.given(x, "tally(0, 8, 0)", x.tally(0, 8, 0), right);
        AskingCourt y = Court.of("fact x has a 4 b 5;question q fee 0 asks a;");
        Court.plan(y, "rule q;");
        for (int seed = 0; seed < 8; seed++) {
            int end = y.sit(seed);
            Court.given(y, "no below a half: wrong in world 0", end, 1 - y.sat(3));
        }
    }

    private static void whens() {
        String text = "fact x has a b;question q fee 0 asks a;question r fee 0 asks b;witness w knows x may honest 16;";
        AskingCourt x = Court.of(text);
        Court.plan(x, "when sure q;next;end;when left 1;next;end;when left 2;ask w q;end;"
                + "when sure q;next;when yes q;next;next;end;when no q;next;next;next;next;end;end;when left 1;rule q;end;next;");
        for (int seed = 0; seed < 6; seed++) {
            Court.given(x, "sit(" + seed + ")", x.sit(seed), 0);
            int world = x.sat(3);
            sat(x, 1, 0, world == 0 ? 3 : 5, world, 1, 0);
        }
        Court.plan(x, "ask w q;ask w q;best w;best w;best w;");
        Court.given(x, "sit(0)", x.sit(0), 2);
        Court.given(x, "what was put already is not put", x.sat(0), 2);
        Court.plan(x, "best w;");
        x.sit(0);
        Court.given(x, "sat(0)", x.sat(0), 1);
        Court.given(x, "sat(4)", x.sat(4), 1);
    }

    private static void ninePutOnADay() {
        StringBuilder text = new StringBuilder("fact x has a b;witness w may silent 16;");
        for (int q = 0; q < 12; q++) {
            text.append("question q").append((char) ('a' + q)).append(" fee 1 asks a;");
        }
        AskingCourt x = Court.of(text.toString());
        Court.plan(x, "best w;".repeat(12));
        Court.given(x, "sit(0)", x.sit(0), 2);
        sat(x, 9, 18, 0);
        Court.plan(x, "best w;".repeat(10) + "next;" + "best w;".repeat(5));
        Court.given(x, "sit(0)", x.sit(0), 2);
        sat(x, 12, 24, 1);
    }

    private static void tallies() {
        AskingCourt x = Court.of(CASE);
        Court.refused(x, "no plan", x.tally(0, 1, 0), 6);
        Court.plan(x, "ask w r;rule q;");
        int[] ends = new int[3];
        for (int seed = 9970; seed < 10000; seed++) {
            ends[x.sit(seed)]++;
        }
        int last = x.sat(3);
        for (int end = 0; end < 3; end++) {
            Court.given(x, "tally(9970, 30, " + end + ")", x.tally(9970, 30, end), ends[end]);
        }
        Court.given(x, "tally(0, 30, 2)", x.tally(0, 30, 2), 0);
        Court.given(x, "tally(9999, 1, 2)", x.tally(9999, 1, 2), 0);
        Court.refused(x, "tally(10000, 1, 2)", x.tally(10000, 1, 2), 1);
        Court.given(x, "sat() is of sit()", x.sat(3), last);
        Court.refused(x, "the last above 9,999", x.tally(9971, 30, 0), 1);
        Court.refused(x, "tally(-1, 1, 0)", x.tally(-1, 1, 0), 1);
        Court.refused(x, "tally(0, 0, 0)", x.tally(0, 0, 0), 1);
        Court.refused(x, "tally(0, 31, 0)", x.tally(0, 31, 0), 1);
        Court.refused(x, "tally(0, 1, 3)", x.tally(0, 1, 3), 1);
        Court.refused(x, "tally(0, 1, -1)", x.tally(0, 1, -1), 1);
        Court.refused(x, "tally(2147483647, 30, 0)", x.tally(Integer.MAX_VALUE, 30, 0), 1);
    }

    private static void heardStays() {
        AskingCourt x = Court.of(CASE);
        Court.plan(x, "ask w q;next;rule q;");
        x.hear(0, 1, 1);
        x.nextDay();
        x.nextDay();
        int left = x.left();
        x.sit(3);
        x.tally(4, 5, 0);
        Court.given(x, "told(5)", x.told(5), 2);
        Court.given(x, "told(6)", x.told(6), 1);
        Court.given(x, "left()", x.left(), left);
        Court.given(x, "heard(0, 1)", x.heard(0, 1), 1);
    }
}
