import java.util.ArrayList;
import java.util.List;

/** What was there ahead leaves nothing behind: cases in place of others, marks, texts cut off the tape. */
public final class EdgeReuseTest {
    private static final List<String> CASES = List.of(
            "fact x has a 9 b 8 c 7;fact y has d 6 e 5;fact z has f g h i;never a d;never b e;never c f;"
                    + "question p fee 9 asks not (a or f);question q fee 8 asks b and d;question r fee 7 asks not a and not c;"
                    + "question s fee 6 asks f or g;question t fee 5 asks a or not a;"
                    + "witness w knows x y z may honest 4 turns 4 other 4 silent 4 hides p q r s t;"
                    + "witness v knows z x may turns 15 other 1 hides t;witness u knows y may silent 9 honest 7;"
                    + "witness o may other 16 hides s;",
            "fact p has q r;question a fee 1 asks not q;witness x may honest 16;",
            "",
            "fact a has x y;fact b has z w;question c fee 0 asks x and z;question d fee 0 asks y or z;"
                    + "question e fee 0 asks not (x or z);witness f may turns 16;witness g knows b may honest 8 other 8;",
            "witness p may silent 16;witness q may honest 16;",
            "fact w has v u o;question x fee 3 asks v and u;question y fee 3 asks o or v or u;witness z knows w may honest 16;",
            "fact f has a b;fact g has c d;never a c;never a d;never b c;never b d;question q fee 1 asks a;witness w may honest 16;",
            "fact x has a b c d;fact y has e f g h;fact z has i j k l;fact w has m n o p;"
                    + "question q fee 99 asks not (a or e and not (i or m));question r fee 99 asks m;question s fee 1 asks a or not a;"
                    + "witness v knows x z may honest 5 turns 6 other 5;witness u knows w may silent 16;");

    public static void main(String[] args) {
        casesInPlaceOfOthers();
        faultsBetween();
        marksOfAll();
        marksOfPlans();
        cutTexts();
        calls();
        Court.end("EdgeReuseTest");
    }

    private static void casesInPlaceOfOthers() {
        Sentences.terms("A CASE that is taken is there in place of that ahead; nothing is heard then, it is day 0, no PLAN is"
                + " there.");
        List<String> fresh = new ArrayList<>();
        for (String text : CASES) {
            fresh.add(State.of(Court.of(text)));
        }
        AskingCourt x = new AskingCourt();
        for (int step = 1; step < CASES.size(); step += 2) {
            for (int i = 0; i < 2 * CASES.size(); i++) {
                int which = i * step % CASES.size();
                Court.due(CASES.get(which), Court.court(x, CASES.get(which)) >= 0, true);
                Court.due("as on a new object", State.of(x).equals(fresh.get(which)), true);
                if (x.told(3) > 0 && x.told(4) > 0) {
                    Court.given(x, "hear", x.hear(0, 0, 1));
                    Court.given(x, "plan", Court.plan(x, "next;"), 1);
                }
                x.nextDay();
            }
            x = new AskingCourt();
            x.mark();
        }
    }

    /** A text with a fault at its end was read nearly to the end. */
    private static void faultsBetween() {
        Sentences.promise(10, "9: the old one stays");
        for (String text : CASES) {
            AskingCourt x = Court.of(text);
            String ahead = State.of(x).replaceFirst("fault [^\\n]*\\n", "");
            for (String other : CASES) {
                Court.refused(x, other + ")", Court.court(x, other + ")"), 9);
                Court.due("fault(0)", x.fault(0), 2);
                Court.due("fault(1)", x.fault(1), other.length());
                Court.due("the old one stays", State.of(x).replaceFirst("fault [^\\n]*\\n", "").equals(ahead), true);
            }
        }
    }

    private static void hearSome(AskingCourt x, int from) {
        for (int q = from; q < x.told(3) && x.told(4) > 0; q += 2) {
            Court.given(x, "hear", x.hear(q % x.told(4), q, (q + from) % (2 * x.told(3))));
            x.nextDay();
        }
    }

    private static void marksOfAll() {
        Sentences.promise(46, "All is taken back to the latest MARK: how many there are left (6).");
        for (int first = 0; first < CASES.size(); first++) {
            AskingCourt x = new AskingCourt();
            List<String> states = new ArrayList<>();
            for (int many = 1; many <= 3; many++) {
                Court.court(x, CASES.get((first + 3 * many) % CASES.size()));
                for (int day = 0; day < 5 * many; day++) {
                    x.nextDay();
                }
                hearSome(x, many % 2);
                Court.plan(x, "next;".repeat(many));
                states.add(State.of(x));
                Court.given(x, "mark()", x.mark(), many);
                hearSome(x, (many + 1) % 2);
                x.unsay();
                x.nextDay();
            }
            for (int left = 2; left >= 0; left--) {
                for (String text : CASES) {
                    Court.court(x, text);
                    hearSome(x, 0);
                    Court.plan(x, "next;");
                }
                Court.given(x, "back()", x.back(), left);
                Court.due("all is as at the mark", State.of(x).equals(states.get(left)), true);
            }
        }
    }

    private static void marksOfPlans() {
        Sentences.terms("the PLAN are kept as they are");
        String first = CASES.get(0);
        String[] plans = {"ask w p;ask v s;when left 9;ask u t;next;end;next;rule r;",
            "when sure t;best o;end;when yes t;next;best w;when no t;rule p;end;end;best v;rule q;",
            "next;ask o q;when left 0;rule s;when left 1;rule p;end;next;end;ask w t;", ""};
        AskingCourt x = Court.of(first);
        int[][] sat = new int[4][6];
        int[] ends = new int[4];
        for (int i = 0; i < 4; i++) {
            Court.due(plans[i], Court.plan(x, plans[i]) >= 0, true);
            ends[i] = x.sit(77);
            for (int what = 0; what < 6; what++) {
                sat[i][what] = x.sat(what);
            }
            if (i < 3) {
                Court.given(x, "mark()", x.mark(), i + 1);
            }
        }
        for (int i = 2; i >= 0; i--) {
            Court.plan(x, plans[3 - i]);
            Court.given(x, "back()", x.back(), i);
            Court.given(x, plans[i], x.sit(77), ends[i]);
            for (int what = 0; what < 6; what++) {
                Court.given(x, "sat(" + what + ")", x.sat(what), sat[i][what]);
            }
        }
        Court.given(x, "mark()", x.mark(), 1);
        Court.court(x, first);
        Court.refused(x, "no plan", x.sit(77), 6);
        Court.given(x, "mark()", x.mark(), 2);
        Court.plan(x, plans[1]);
        Court.given(x, "back()", x.back(), 1);
        Court.refused(x, "no plan at the mark", x.sit(77), 6);
        Court.given(x, "back()", x.back(), 0);
        Court.given(x, "the plan at the first", x.sit(77), ends[0]);
    }

    private static void cut(int kind, String text, String rest) {
        AskingCourt x = new AskingCourt();
        Court.feed(x, text + rest);
        Court.refused(x, text, x.court(text.length()), 9);
        Court.due(text + ": fault(0)", x.fault(0), kind);
        Court.due(text + ": fault(1)", x.fault(1), text.length());
    }

    private static void cutTexts() {
        Sentences.promise(10, "The first n bytes of the tape (which is empty then) are the CASE");
        cut(2, "fact a has b c 1", "2;");
        cut(2, "fact a has b c", "cccccccc;");
        cut(2, "fact a has b c 9", "9999;");
        cut(2, "fact a has b c", ";");
        cut(2, "fact", "a");
        cut(2, "fact a has b c;witness w may honest 1", "6;");
        AskingCourt x = new AskingCourt();
        String text = "fact a has b c;";
        for (int n = 0; n <= text.length(); n++) {
            Court.feed(x, text);
            int worlds = x.court(n);
            Court.due("court(" + n + ")", worlds, n == 0 ? 1 : n == text.length() ? 2 : -1);
            Court.due("the tape is empty then", x.feed(0, 0, 0, 0, 0), 20);
            x.court(0);
        }
        Court.court(x, text);
        String plan = "next;next;";
        for (int n = 0; n <= plan.length(); n++) {
            Court.feed(x, plan);
            Court.due("plan(" + n + ")", x.plan(n), n % 5 == 0 ? n / 5 : -1);
            Court.due("the tape is empty then", x.feed(0, 0, 0, 0, 0), 20);
            x.plan(0);
        }
    }

    private static void calls() {
        Sentences.terms("An object is used for at most 512 calls after it has been made");
        AskingCourt x = new AskingCourt();
        int calls = 0;
        while (calls < 500) {
            Court.due("mark()", x.mark(), 1);
            Court.due("nextDay()", x.nextDay(), 1);
            Court.due("back()", x.back(), 0);
            Court.due("told(5)", x.told(5), 0);
            calls += 4;
        }
        for (; calls < 511; calls++) {
            Court.due("left()", x.left(), 1);
        }
        Court.due("the last one", x.told(2), 1);
    }
}
