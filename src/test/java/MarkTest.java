/** Promises 45 and 46: marks to which all is taken back. */
public final class MarkTest {
    private static final String FIRST = "fact x has a b;question q fee 5 asks a;witness w knows x may honest 16;";
    private static final String SECOND = "fact x has a b c;question q fee 9 asks c;question r fee 1 asks a;"
            + "witness w knows x may honest 16;witness v may silent 16;";

    public static void main(String[] args) {
        heardAndDay();
        casesAndPlans();
        planSteps();
        whatStays();
        manyCases();
        Court.end("MarkTest");
    }

    private static void heardAndDay() {
        AskingCourt x = Court.of(FIRST);
        Court.refused(x, "back()", x.back(), 6);
        x.nextDay();
        Court.given(x, "mark()", x.mark(), 1);
        x.hear(0, 0, 1);
        x.nextDay();
        Court.given(x, "mark()", x.mark(), 2);
        x.unsay();
        x.nextDay();
        Court.given(x, "mark()", x.mark(), 3);
        Court.refused(x, "a fourth", x.mark(), 4);
        x.hear(0, 0, 0);
        Court.given(x, "back()", x.back(), 2);
        Court.given(x, "told(5)", x.told(5), 3);
        Court.given(x, "told(6)", x.told(6), 0);
        Court.given(x, "left()", x.left(), 2);
        Court.given(x, "back()", x.back(), 1);
        Court.given(x, "told(5)", x.told(5), 2);
        Court.given(x, "told(6)", x.told(6), 1);
        Court.given(x, "heard(0, 2)", x.heard(0, 2), 1);
        Court.given(x, "heard(0, 3)", x.heard(0, 3), 1);
        Court.given(x, "left()", x.left(), 1);
        Court.given(x, "sure(0)", x.sure(0), 0);
        Court.refused(x, "it was put", x.hear(0, 0, 0), 7);
        Court.given(x, "back()", x.back(), 0);
        Court.given(x, "told(5)", x.told(5), 1);
        Court.given(x, "told(6)", x.told(6), 0);
        Court.refused(x, "back()", x.back(), 6);
        Court.given(x, "told(5)", x.told(5), 1);
    }

    private static void casesAndPlans() {
        AskingCourt x = Court.of(FIRST);
        Court.plan(x, "ask w q;rule q;");
        x.mark();
        Court.court(x, SECOND);
        x.hear(1, 0, 0);
        x.mark();
        Court.court(x, "");
        Court.plan(x, "next;next;next;");
        Court.given(x, "told(2)", x.told(2), 1);
        Court.given(x, "sit(0)", x.sit(0), 2);
        Court.given(x, "back()", x.back(), 1);
        Court.given(x, "told(1)", x.told(1), 3);
        Court.given(x, "told(3)", x.told(3), 2);
        Court.given(x, "told(4)", x.told(4), 2);
        Court.given(x, "told(6)", x.told(6), 1);
        Court.given(x, "fee(0)", x.fee(0), 9);
        Court.refused(x, "no plan was there", x.sit(0), 6);
        Court.given(x, "names are those of that case", Court.plan(x, "ask v r;"), 1);
        Court.given(x, "back()", x.back(), 0);
        Court.given(x, "fee(0)", x.fee(0), 5);
        Court.given(x, "told(6)", x.told(6), 0);
        Court.given(x, "answer(0, 0, 1, 0)", x.answer(0, 0, 1, 0), 1);
        Court.given(x, "sit(0)", x.sit(0), 0);
        Court.given(x, "sat(0)", x.sat(0), 1);
        Court.refused(x, "v is not there", Court.plan(x, "ask v q;"), 9);
    }

    /** Each part of each step comes back: who is asked, what, and where a when goes on. */
    private static void planSteps() {
        AskingCourt x = Court.of(SECOND);
        Court.plan(x, "when left 0;next;next;end;next;ask w r;when left 2;ask v q;end;next;rule r;");
        x.sit(0);
        int[] due = new int[6];
        for (int what = 0; what < 6; what++) {
            due[what] = x.sat(what);
        }
        Court.due("v is asked in the world drawn", due[0], 2);
        Court.due("the when ahead is passed by", due[2], 2);
        x.mark();
        Court.plan(x, "when left 3;when left 3;ask v r;end;next;ask v q;end;next;next;next;next;");
        x.sit(0);
        x.back();
        Court.given(x, "sit(0)", x.sit(0), 0);
        for (int what = 0; what < 6; what++) {
            Court.given(x, "sat(" + what + ")", x.sat(what), due[what]);
        }
    }

    /** Trays, the tape, the fraction, faults, and what was found are no part of a mark. */
    private static void whatStays() {
        AskingCourt x = Court.of(FIRST);
        x.mark();
        x.tray(0, 0, 2);
        x.write(0, 0, 7);
        x.chance(0);
        x.shortest(0, 0);
        Court.plan(x, "rule");
        x.feed(0, 0, 0, 0, 0);
        Court.given(x, "back()", x.back(), 0);
        Court.given(x, "read(0, 0)", x.read(0, 0), 7);
        Court.due("bottom()", x.bottom(), 2);
        Court.given(x, "shortestFirst(1)", x.shortestFirst(1), 0);
        Court.due("fault(0)", x.fault(0), 2);
        Court.due("feed()", x.feed(0, 0, 0, 0, 0), 40);
    }

    /** New cases never take the place of one that a mark keeps, nor do those with faults. */
    private static void manyCases() {
        AskingCourt x = new AskingCourt();
        for (int i = 0; i < 3; i++) {
            for (int j = 0; j < 3; j++) {
                Court.court(x, "fact x has a b;question q fee " + (i + 1) + " asks a;");
                Court.court(x, "fact x has a b c;question q fee 99 asks a;?");
            }
            Court.given(x, "mark()", x.mark(), i + 1);
        }
        for (int j = 0; j < 9; j++) {
            Court.court(x, "fact x has a b;question q fee 50 asks a;");
        }
        Court.given(x, "fee(0)", x.fee(0), 50);
        for (int i = 2; i >= 0; i--) {
            Court.given(x, "back()", x.back(), i);
            Court.given(x, "fee(0)", x.fee(0), i + 1);
            Court.given(x, "told(1)", x.told(1), 2);
        }
    }
}
