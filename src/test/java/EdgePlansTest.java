/** The edges of "==== 4.": plans as texts, the cases that are drawn, marks. */
public final class EdgePlansTest {
    /** w tells of each question what is so; z is silent. */
    private static final String FOUR = "fact x has a b c d;question p fee 1 asks a;question q fee 2 asks b;"
            + "question r fee 4 asks c;question n fee 8 asks a and b;question t fee 16 asks a or not a;"
            + "witness w knows x may honest 16;witness z may silent 16;";
    private static final String COIN = "fact x has a b;question p fee 5 asks a;witness w knows x may honest 16;"
            + "witness z may silent 16;";

    public static void main(String[] args) {
        longestPlan();
        steps();
        whens();
        numbersOfLeft();
        lines();
        bounds();
        seeds();
        draws();
        drawnKinds();
        asTrue();
        nothingIsDone();
        nineOnADay();
        tests();
        halves();
        verdicts();
        whatWasHeardStays();
        tallies();
        marks();
        Court.end("EdgePlansTest");
    }

    private static void good(String text, int steps) {
        AskingCourt x = Court.of(FOUR);
        Court.given(x, text, Court.plan(x, text), steps);
        Court.due(text + ": fault(0)", x.fault(0), 0);
        Court.due(text + ": fault(1)", x.fault(1), -1);
        Court.due(text + " is there", x.tally(0, 1, 0) >= 0, true);
    }

    private static void fault(int kind, String ahead, String at) {
        AskingCourt x = Court.of(FOUR);
        Court.refused(x, ahead + at, Court.plan(x, ahead + at), 9);
        Court.due(ahead + at + ": fault(0)", x.fault(0), kind);
        Court.due(ahead + at + ": fault(1)", x.fault(1), ahead.length());
        Court.refused(x, "none is there", x.tally(0, 1, 0), 6);
    }

    private static void longestPlan() {
        Sentences.terms("A PLAN is a TEXT of at most 300 bytes, of such TOKENS (none at first).");
        good("next" + " ".repeat(295) + ";", 1);
        AskingCourt x = Court.of(FOUR);
        Court.refused(x, "none at first", x.sit(0), 6);
        Court.feed(x, "next" + " ".repeat(296) + ";");
        Court.refused(x, "301 bytes", x.plan(301), 1);
        Court.due("fault() is that of the case", x.fault(0), 0);
        Court.refused(x, "300 of them", x.plan(300), 9);
        Court.due("the end", x.fault(1), 300);
        Court.refused(x, "the tape is empty then", x.plan(1), 1);
        good("", 0);
        good(" \n", 0);
        Sentences.terms("PLAN: {STEP}.");
        Court.given(x, "no steps", Court.plan(x, ""), 0);
        Court.given(x, "no verdict", x.sit(0), 2);
    }

    private static void steps() {
        Sentences.terms("6 a 31st STEP (at its WORD; end is none).");
        good("next;".repeat(30), 30);
        fault(6, "next;".repeat(30), "next;");
        fault(6, "next;".repeat(30), "when");
        good("when sure p;".repeat(3) + "end;".repeat(3) + "next;".repeat(27), 30);
        good("next;".repeat(27) + "when sure p;".repeat(3) + "end;".repeat(3), 30);
        fault(6, "next;".repeat(27) + "when sure p;".repeat(3), "next;" + "end;".repeat(3));
        fault(6, "next;".repeat(28) + "when sure p;end;ask w p;", "best w;");
        fault(2, "next;".repeat(30), "end;");
    }

    private static void whens() {
        Sentences.terms("7 a when within three others (at its WORD).");
        good("when sure p;when yes p;when no p;end;end;end;", 3);
        fault(7, "when sure p;when yes p;when no p;", "when left 1;end;end;end;end;");
        good("when sure p;when yes p;when no p;end;when left 4;end;end;when left 3;when left 2;end;end;end;when yes q;end;", 7);
        fault(7, "when sure p;when yes p;when no p;end;when left 4;", "when");
        fault(6, "next;".repeat(27) + "when sure p;when yes p;when no p;", "when left 1;");
        Sentences.terms("(an end without a when; the text's end ahead of an end: 2)");
        fault(2, "", "end;");
        fault(2, "when sure p;end;", "end;");
        fault(2, "when sure p;", "");
        fault(2, "when sure p;next;   ", "");
        fault(2, "when sure p;when no p;end;", "");
        fault(2, "when sure p;end", "");
        fault(2, "when sure p;end ", "next;");
    }

    private static void numbersOfLeft() {
        Sentences.terms("4 a NUMBER that can't be (0 to 256).");
        good("when left 0;end;", 1);
        good("when left 256;end;", 1);
        good("when left 0256;end;", 1);
        fault(4, "when left ", "257;end;");
        fault(4, "when left ", "9999;end;");
        fault(1, "when left ", "00256;end;");
        fault(2, "when left", ";end;");
        fault(2, "when left ", "p;end;");
        fault(2, "when sure ", "4;end;");
    }

    private static void lines() {
        Sentences.terms("STEP: ask NAME NAME ; or best NAME ; or next ; or rule NAME ; or when TEST ; {STEP} end ; TEST: sure"
                + " NAME, or yes NAME, or no NAME, or left NUMBER.");
        good("ask w p;", 1);
        good("best w;", 1);
        good("next;", 1);
        good("rule p;", 1);
        good("when sure p;end;", 1);
        good("when yes p;next;end;", 2);
        good("when no p;next;next;end;", 3);
        good("when left 2;next;when sure p;end;next;end;", 4);
        fault(2, "ask", ";");
        fault(2, "ask w p", "");
        fault(2, "best", ";");
        fault(2, "when", ";");
        fault(2, "when sure", ";");
        fault(2, "when sure p ", "next;end;");
        fault(2, "when ", "1;end;");
        fault(2, "when sure p;end ", "p;");
        fault(2, "", ";");
        fault(2, "next;", ";");
        Sentences.terms("3 a NAME that is no such thing.");
        fault(3, "ask ", "vv p;");
        fault(3, "ask w ", "pp;");
        fault(3, "best ", "ww;");
        fault(3, "rule ", "pp;");
        fault(3, "when sure ", "pp;");
        Sentences.terms("(ask: a WITNESS, a QUESTION; best: a WITNESS; others: a QUESTION.)");
        good("ask w p;best z;rule t;when sure n;end;when yes r;end;when no q;end;", 6);
        for (String name : new String[] {"x", "a", "p", "v"}) {
            fault(3, "ask ", name + " p;");
            fault(3, "best ", name + ";");
        }
        for (String name : new String[] {"x", "a", "w", "v"}) {
            fault(3, "ask w ", name + ";");
            fault(3, "rule ", name + ";");
            for (String test : new String[] {"sure", "yes", "no"}) {
                fault(3, "when " + test + " ", name + ";end;");
            }
        }
        fault(2, "ask w", ";");
        fault(2, "best w ", "p;");
        fault(2, "next ", "w;");
        fault(2, "rule", ";");
        fault(2, "when ", "next;");
        fault(2, "when ", "p;");
        fault(2, "ask ", "wwwwwwwww p;");
    }

    private static void bounds() {
        Sentences.promise(11, "1: above 300, too; 9");
        AskingCourt x = Court.of(FOUR);
        x.feed(0x6e657874, 0x3b202020, 0, 0, 0);
        Court.refused(x, "plan(-1)", x.plan(-1), 1);
        Court.refused(x, "plan(21)", x.plan(21), 1);
        Court.refused(x, "plan(301)", x.plan(301), 1);
        Court.refused(x, "the largest", x.plan(Integer.MAX_VALUE), 1);
        Court.refused(x, "the least", x.plan(Integer.MIN_VALUE), 1);
        Court.given(x, "the tape is as it was", x.plan(8), 1);
        Court.given(x, "the first n are taken", Court.plan(x, "next;"), 1);
        Court.refused(x, "a fault", Court.plan(x, "rule;"), 9);
        Court.given(x, "the old one stays", x.sit(0), 2);
        Court.given(x, "its one step", x.sat(2), 1);
    }

    private static void seeds() {
        Sentences.terms("SITS by a seed (0 to 9,999)");
        AskingCourt x = Court.of(COIN);
        Court.plan(x, "rule p;");
        Court.due("sit(0)", x.sit(0) >= 0, true);
        Court.due("sit(9999)", x.sit(9999) >= 0, true);
        Court.refused(x, "sit(-1)", x.sit(-1), 1);
        Court.refused(x, "sit(10000)", x.sit(10000), 1);
        Court.refused(x, "the least", x.sit(Integer.MIN_VALUE), 1);
        Court.refused(x, "the largest", x.sit(Integer.MAX_VALUE), 1);
        Sentences.promise(42, "6: no PLAN, no WORLD is POSSIBLE");
        AskingCourt y = Court.of("fact x has a b;fact y has c d;never a c;never a d;never b c;never b d;");
        Court.refused(y, "no plan", y.sit(0), 6);
        Court.plan(y, "next;");
        Court.refused(y, "no world", y.sit(0), 6);
        Court.refused(y, "1 ahead of 6", y.sit(10000), 1);
        Court.refused(y, "sat(0)", y.sat(0), 6);
        AskingCourt z = new AskingCourt();
        Court.plan(z, "next;");
        Court.given(z, "a case of nothing", z.sit(0), 2);
        int[] due = {0, 0, 1, 0, 1, 0};
        for (int what = 0; what < 6; what++) {
            Court.given(z, "sat(" + what + ")", z.sat(what), due[what]);
        }
    }

    private static int next(int s) {
        return (int) ((s * 2417L + 10613) % 65536);
    }

    /** The first in a row with which what is summed up is more. */
    private static int first(int[] row, int drawn) {
        int sum = 0;
        for (int i = 0; i < row.length; i++) {
            sum += row[i];
            if (sum > drawn) {
                return i;
            }
        }
        return -1;
    }

    private static void draws() {
        Sentences.terms("Draws: s, at first the seed, becomes what is left of s times 2,417 and 10,613 by 65,536; the draw by n"
                + " is s by 8, rounded down, by n what is left.");
        AskingCourt x = Court.of("fact x has a 9 b 1 c 2;fact y has d 3 e;never b d;never c e;question p fee 0 asks a;");
        Court.plan(x, "rule p;");
        int[] weights = {27, 9, 0, 1, 6, 0};
        int[] drawn = new int[6];
        for (int seed = 0; seed < 300; seed++) {
            int due = first(weights, next(seed) / 8 % 43);
            Court.due("sit", x.sit(seed) >= 0, true);
            Court.given(x, "seed " + seed, x.sat(3), due);
            drawn[due]++;
        }
        for (int world = 0; world < 6; world++) {
            Court.due("world " + world + " is drawn", drawn[world] > 0, weights[world] > 0);
        }
    }

    private static void drawnKinds() {
        Sentences.terms("nothing is heard at first, DAY 0; the true WORLD, then KINDS are drawn: a draw by the weights of all"
                + " POSSIBLE WORLDS together (VALUES' weights times one another), then WITNESS by WITNESS one by 16: the first"
                + " with which what is summed up is more.");
        AskingCourt x = Court.of("fact x has a 2 b 7;question p fee 0 asks a;witness e may silent 1 honest 15;"
                + "witness f may turns 16;witness g may other 8 honest 8;witness h may honest 1 turns 15;");
        Court.plan(x, "rule p;");
        int[] honest = {15, 0, 8, 1};
        for (int seed = 9700; seed < 10000; seed++) {
            int s = next(seed);
            int world = first(new int[] {2, 7}, s / 8 % 9);
            int others = 0;
            for (int v = 0; v < 4; v++) {
                s = next(s);
                others |= s / 8 % 16 < honest[v] ? 0 : 1 << v;
            }
            Court.due("sit", x.sit(seed) >= 0, true);
            Court.given(x, "seed " + seed, x.sat(3), world);
            Court.given(x, "seed " + seed, x.sat(5), others);
        }
    }

    private static void sat(AskingCourt x, String plan, int... due) {
        Court.due(plan + " is a plan", Court.plan(x, plan) >= 0, true);
        Court.due("sit(0)", x.sit(0) >= 0, true);
        for (int what = 0; what < due.length; what++) {
            Court.given(x, plan + ": sat(" + what + ")", x.sat(what), due[what]);
        }
    }

    /** The counts of heard answers and fees tell what was answered. */
    private static void asTrue() {
        Sentences.terms("ask: it is put, and answered as it is true; best: BEST is put;");
        AskingCourt x = Court.of("fact x has a b;question p fee 1 asks b;question r fee 10 asks a;"
                + "witness w knows x may honest 5 turns 5 silent 6;");
        int[][] fees = {{10 + 2, 10 + 1, 10 + 10}, {10 + 1, 10 + 2, 10 + 10}};
        int[] seen = new int[6];
        for (int seed = 0; seed < 200; seed++) {
            int s = next(seed);
            int world = s / 8 % 2;
            int drawn = next(s) / 8 % 16;
            int kind = drawn < 5 ? 0 : drawn < 10 ? 1 : 2;
            Court.plan(x, "ask w r;");
            Court.given(x, "sit", x.sit(seed), 2);
            Court.given(x, "sat(3)", x.sat(3), world);
            Court.given(x, "sat(1)", x.sat(1), fees[world][kind]);
            Court.given(x, "sat(4)", x.sat(4), 2);
            Court.plan(x, "best w;");
            Court.given(x, "sit", x.sit(seed), 2);
            Court.given(x, "sat(0)", x.sat(0), 1);
            int[][] best = {{1 + 2, 1 + 1, 1 + 1}, {1 + 20, 1 + 10, 1 + 1}};
            Court.given(x, "p is put: sat(1)", x.sat(1), best[world][kind]);
            seen[world * 3 + kind]++;
        }
        for (int i = 0; i < 6; i++) {
            Court.due("each was drawn", seen[i] > 0, true);
        }
    }

    private static void nothingIsDone() {
        Sentences.terms("nothing is done where it was put already, there is none, or nine were put that DAY");
        AskingCourt x = Court.of(COIN);
        sat(x, "ask z p;", 1, 10, 0);
        sat(x, "ask z p;ask z p;", 1, 10, 0);
        sat(x, "ask z p;next;ask w p;", 1, 10, 1);
        sat(x, "ask z p;best w;best z;", 1, 10, 0);
        sat(x, "best z;ask w p;", 1, 10, 0);
        AskingCourt y = Court.of("fact x has a b;witness z may silent 16;");
        sat(y, "best z;", 0, 0, 0);
    }

    private static void nineOnADay() {
        Sentences.terms("nine were put that DAY. next: the DAY is over.");
        StringBuilder text = new StringBuilder("fact x has a b;witness w may silent 16;");
        for (int q = 0; q < 12; q++) {
            text.append("question q").append((char) ('a' + q)).append(" fee 1 asks a;");
        }
        AskingCourt x = Court.of(text.toString());
        sat(x, "best w;".repeat(8), 8, 16, 0);
        sat(x, "best w;".repeat(9), 9, 18, 0);
        sat(x, "best w;".repeat(10), 9, 18, 0);
        sat(x, "best w;".repeat(9) + "ask w ql;", 9, 18, 0);
        sat(x, "best w;".repeat(10) + "next;best w;", 10, 20, 1);
        sat(x, "best w;".repeat(4) + "next;" + "best w;".repeat(10), 12, 24, 1);
        sat(x, "next;".repeat(30), 0, 0, 30);
    }

    /** Seed 0 draws s = 10613, 1326 by 4: 2, so c is so. */
    private static void tests() {
        Sentences.terms("when sure: it is SURE; yes, no: it is so SURE; left n: at most n are LEFT: the STEPS up to its end"
                + " are done");
        AskingCourt x = Court.of(FOUR);
        sat(x, "when left 3;next;end;", 0, 0, 0, 2, 4, 2);
        sat(x, "when left 4;next;end;", 0, 0, 1, 2, 4, 2);
        sat(x, "when left 5;next;end;", 0, 0, 1, 2, 4, 2);
        sat(x, "when left 0;next;end;next;", 0, 0, 1);
        sat(x, "when sure p;next;end;", 0, 0, 0);
        sat(x, "when sure n;next;end;", 0, 0, 1);
        sat(x, "when sure t;next;end;", 0, 0, 1);
        sat(x, "when yes n;next;end;", 0, 0, 0);
        sat(x, "when yes t;next;end;", 0, 0, 1);
        sat(x, "when yes p;next;end;", 0, 0, 0);
        sat(x, "when no n;next;end;", 0, 0, 1);
        sat(x, "when no t;next;end;", 0, 0, 0);
        sat(x, "when no p;next;end;", 0, 0, 0);
        sat(x, "ask w p;when left 3;next;end;when left 2;next;end;", 1, 3, 1, 2, 3, 2);
        sat(x, "ask w p;when no p;next;end;when sure q;next;next;end;", 1, 3, 1, 2, 3, 2);
        sat(x, "when sure n;when sure p;next;when sure t;next;end;end;next;when yes t;next;end;end;next;", 0, 0, 3);
        sat(x, "when yes n;when sure t;next;end;next;when sure t;end;end;when no n;end;next;", 0, 0, 1);
    }

    private static void halves() {
        Sentences.terms("rule: the verdict: yes, if it is SURE yes, or OPEN with a CHANCE of a half or more; all is over.");
        rules("fact x has a b;", true);
        rules("fact x has a 5 b 4;", true);
        rules("fact x has a 4 b 5;", false);
        rules("fact x has a 1 b 9;", false);
        rules("fact x has a 9 b 9;", true);
        AskingCourt x = Court.of(FOUR);
        sat(x, "rule p;next;ask w q;", 0, 0, 0, 2, 4);
        sat(x, "when sure n;rule p;end;next;", 0, 0, 0);
        sat(x, "when sure p;rule p;end;next;", 0, 0, 1);
    }

    /** With nobody asked, so is the verdict whatever is true. */
    private static void rules(String fact, boolean yes) {
        AskingCourt x = Court.of(fact + "question p fee 0 asks a;");
        Court.plan(x, "rule p;");
        for (int seed = 0; seed < 12; seed++) {
            int end = x.sit(seed);
            Court.given(x, fact + " seed " + seed, end, x.sat(3) == (yes ? 0 : 1) ? 0 : 1);
        }
    }

    private static void verdicts() {
        Sentences.terms("Told are: 0 right, 1 wrong, 2 no verdict.");
        AskingCourt x = Court.of(FOUR);
        String[] plans = {"rule n;", "rule t;", "ask w r;rule r;", "rule r;", "ask w p;ask w q;rule r;", "next;", ""};
        int[] due = {0, 0, 0, 1, 0, 2, 2};
        for (int i = 0; i < plans.length; i++) {
            Court.plan(x, plans[i]);
            Court.given(x, plans[i], x.sit(0), due[i]);
        }
    }

    private static void whatWasHeardStays() {
        Sentences.terms("What was HEARD stays as it is.");
        AskingCourt x = Court.of(FOUR);
        Court.plan(x, "next;ask w p;next;rule r;");
        x.hear(0, 1, 3);
        x.nextDay();
        x.hear(1, 0, 0);
        int left = x.left();
        Court.given(x, "nothing is heard at first", x.sit(0), 1);
        Court.given(x, "sat(0)", x.sat(0), 1);
        Court.given(x, "day 0 at first", x.sat(2), 2);
        Court.due("tally(0, 30, 0)", x.tally(0, 30, 0) >= 0, true);
        Court.given(x, "told(5)", x.told(5), 1);
        Court.given(x, "told(6)", x.told(6), 2);
        Court.given(x, "told(7)", x.told(7), 1);
        Court.given(x, "heard(1, 1)", x.heard(1, 1), 0);
        Court.given(x, "left()", x.left(), left);
        Court.refused(x, "put already", x.hear(0, 0, 0), 7);
        Court.given(x, "not put here", x.hear(0, 2, 4));
    }

    private static void tallies() {
        Sentences.promise(44, "1: the last above 9,999, too; 6");
        AskingCourt x = Court.of(FOUR);
        Court.refused(x, "no plan", x.tally(0, 1, 0), 6);
        Court.refused(x, "1 ahead of 6", x.tally(0, 0, 0), 1);
        Court.plan(x, "ask z p;rule r;");
        Court.refused(x, "sat(0) ahead of any sit()", x.sat(0), 6);
        int[][] all = {{0, 1}, {0, 30}, {9999, 1}, {9970, 30}, {5000, 17}};
        for (int[] one : all) {
            int sum = 0;
            for (int end = 0; end < 3; end++) {
                sum += x.tally(one[0], one[1], end);
            }
            Court.given(x, "together", sum, one[1]);
        }
        Court.refused(x, "tally() is no sit()", x.sat(0), 6);
        int right = 0;
        for (int seed = 4990; seed < 5020; seed++) {
            right += x.sit(seed) == 0 ? 1 : 0;
        }
        Court.given(x, "tally(4990, 30, 0)", x.tally(4990, 30, 0), right);
        for (int seed = 4990; seed < 5020; seed++) {
            Court.given(x, "so many less", x.tally(seed, 5020 - seed, 0), right);
            right -= x.sit(seed) == 0 ? 1 : 0;
        }
        right = x.tally(4990, 30, 0);
        Court.given(x, "tally(4990, 30, 1)", x.tally(4990, 30, 1), 30 - right);
        Court.given(x, "tally(4990, 30, 2)", x.tally(4990, 30, 2), 0);
        int[][] wrong = {{-1, 1, 0}, {10000, 1, 0}, {0, 0, 0}, {0, 31, 0}, {0, -1, 0}, {0, 1, -1}, {0, 1, 3}, {9999, 2, 0},
            {9971, 30, 0}, {Integer.MAX_VALUE, 2, 0}, {1, Integer.MAX_VALUE, 0}, {Integer.MIN_VALUE, 1, 0}};
        for (int[] one : wrong) {
            Court.refused(x, "tally(" + one[0] + ", " + one[1] + ", " + one[2] + ")", x.tally(one[0], one[1], one[2]), 1);
        }
    }

    private static void marks() {
        Sentences.terms("MARKS, at most 3: the CASE, what was HEARD, the DAY, the PLAN are kept as they are; all is taken back"
                + " to the latest MARK, which is gone then.");
        AskingCourt x = new AskingCourt();
        Court.refused(x, "none at first", x.back(), 6);
        Court.given(x, "of the empty case", x.mark(), 1);
        Court.court(x, FOUR);
        Court.plan(x, "next;next;");
        x.hear(0, 0, 1);
        x.nextDay();
        Court.given(x, "mark()", x.mark(), 2);
        x.nextDay();
        Court.plan(x, "");
        x.hear(0, 1, 2);
        Court.given(x, "mark()", x.mark(), 3);
        Court.refused(x, "a fourth", x.mark(), 4);
        Court.court(x, COIN);
        x.nextDay();
        Court.given(x, "back()", x.back(), 2);
        state(x, 5, 2, 2, 0);
        Court.given(x, "which is gone then", x.mark(), 3);
        x.unsay();
        x.unsay();
        Court.given(x, "back()", x.back(), 2);
        state(x, 5, 2, 2, 0);
        Court.given(x, "back()", x.back(), 1);
        state(x, 5, 1, 1, 2);
        Court.given(x, "back()", x.back(), 0);
        Court.given(x, "told(0)", x.told(0), 0);
        Court.given(x, "told(2)", x.told(2), 1);
        Court.given(x, "told(5)", x.told(5), 0);
        Court.given(x, "told(6)", x.told(6), 0);
        Court.refused(x, "no plan", x.sit(0), 6);
        Court.refused(x, "none any more", x.back(), 6);
    }

    private static void state(AskingCourt x, int questions, int day, int heard, int steps) {
        Court.given(x, "told(3)", x.told(3), questions);
        Court.given(x, "told(5)", x.told(5), day);
        Court.given(x, "told(6)", x.told(6), heard);
        Court.given(x, "sit(0)", x.sit(0), 2);
        Court.given(x, "sat(2)", x.sat(2), steps);
    }
}
