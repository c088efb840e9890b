import java.util.Arrays;

/**
 * A court in which who bears witness may answer nothing but by asking.
 *
 * <p>The document's words are kept: a CASE is a text of facts, questions and witnesses; what is
 * HEARD narrows the WORLDS that are LEFT; a PLAN is a judge's text that SITS in drawn cases. All
 * rows are made once and used again, so that a long run of calls takes no more room than a short
 * one.
 */
public final class AskingCourt {
    public static final int NONE = -1;

    private static final int MOST_FACTS = 4;
    private static final int MOST_VALUES_OF_A_FACT = 6;
    private static final int MOST_VALUES = 24;
    private static final int MOST_WORLDS = 256;
    private static final int MOST_QUESTIONS = 12;
    private static final int MOST_SAYINGS = 24;
    private static final int MOST_WITNESSES = 4;
    private static final int MOST_NAMES = 44;
    private static final int MOST_PUT_ON_A_DAY = 9;
    private static final int LAST_DAY = 99;
    private static final int MOST_STEPS = 30;
    private static final int MOST_WHENS = 3;
    private static final int MOST_NESTING = 6;
    private static final int MOST_MARKS = 3;
    private static final int LAST_SEED = 9999;
    private static final int MOST_SEEDS = 30;
    private static final int SHORTEST_TO_ANY = 2;
    private static final int SHORTEST_TO_ONE = 3;
    private static final int TAPE_BYTES = 900;
    private static final int PLAN_BYTES = 300;
    /** Each byte of the tape may be a token, and the text's end is one. */
    private static final int MOST_TOKENS = 901;

    private static final int TRAYS = 4;
    private static final int TRAY_PLACES = 60;
    private static final int SORTS = 4;

    private static final int KINDS = 4;
    private static final int SIXTEENTHS = 16;
    /** Kinds stand in sets of four bits a witness; honest is the lowest of the four. */
    private static final int ALL_KINDS = 0xFFFF;
    private static final int ALL_HONEST = 0x1111;
    private static final int KINDS_OF_ONE = 15;
    /** Below 24, an answer takes five bits: those of all four kinds stand in one int. */
    private static final int ANSWER_BITS = 5;
    private static final int ANSWER_MASK = 31;

    private static final int NUMBER_CANT_BE = 1;
    private static final int TRAY_IS_MISSING = 2;
    private static final int NO_SUCH_PLACE = 3;
    private static final int ONE_TOO_MANY = 4;
    private static final int NONE_SUCH = 6;
    private static final int CANT_BE = 7;
    private static final int UNLIKE_SORTS = 8;
    private static final int HAS_FAULT = 9;

    private static final int FAULT_NO_TOKEN = 1;
    private static final int FAULT_CANT_STAND = 2;
    private static final int FAULT_NAME = 3;
    private static final int FAULT_NUMBER = 4;
    private static final int FAULT_AGAIN = 5;
    private static final int FAULT_TOO_MANY = 6;
    private static final int FAULT_ORDER = 7;
    private static final int FAULT_SUM = 8;

    private static final int A_FACT = 0;
    private static final int A_VALUE = 1;
    private static final int A_QUESTION = 2;
    private static final int A_WITNESS = 3;

    private static final int TEXT_END = 0;
    private static final int BROKEN = 1;
    private static final int NUMBER = 2;
    private static final int SEMICOLON = 3;
    private static final int OPEN = 4;
    private static final int CLOSE = 5;
    private static final int NAME = 6;
    private static final int LONG_WORD = 7;
    /** In the order of the tokens from FACT to END, each with a blank behind it. */
    private static final String WORDS = "fact has never question fee asks witness knows may hides or and not honest turns other silent ask best next rule when sure yes no left end ";
    private static final int WORD_COUNT = 27;
    private static final int LONGEST_NAME = 8;
    private static final int LONGEST_NUMBER = 4;
    private static final int FACT = 8;
    private static final int HAS = 9;
    private static final int NEVER = 10;
    private static final int QUESTION = 11;
    private static final int FEE = 12;
    private static final int ASKS = 13;
    private static final int WITNESS = 14;
    private static final int KNOWS = 15;
    private static final int MAY = 16;
    private static final int HIDES = 17;
    private static final int OR = 18;
    private static final int AND = 19;
    private static final int NOT = 20;
    private static final int HONEST = 21;
    private static final int SILENT = 24;
    private static final int ASK = 25;
    private static final int BEST = 26;
    private static final int NEXT = 27;
    private static final int RULE = 28;
    private static final int WHEN = 29;
    private static final int SURE = 30;
    private static final int YES = 31;
    private static final int NO = 32;
    private static final int LEFT = 33;
    private static final int END = 34;

    private static final int RIGHT = 0;
    private static final int WRONG = 1;
    private static final int NO_VERDICT = 2;

    private final int[] traySorts = new int[TRAYS];
    private final int[] traySizes = new int[TRAYS];
    private final long[] trayPlaces = new long[TRAYS * TRAY_PLACES];
    private final Lexer lexer = new Lexer();
    /** The present and the marks hold at most four of these, so one is always free. */
    private final Case[] cases = new Case[MOST_MARKS + 2];
    private final CaseReader caseReader;
    private final Hearing hearing;
    private final Search search;
    private final Sitting sitting;
    private final Mark[] marks = new Mark[MOST_MARKS];
    private final int[] satRow = new int[6];
    private Case caseNow;
    private Plan planNow = new Plan();
    private Plan planDraft = new Plan();
    private int marked = 0;
    private int firstPut = NONE;
    private boolean everSat = false;
    private int status = 0;
    private long top = 0;
    private long bottom = 1;

    public AskingCourt() {
        Case empty = new Case();
        caseNow = empty;
        cases[0] = empty;
        caseReader = new CaseReader(lexer, empty);
        hearing = new Hearing(empty);
        search = new Search(hearing);
        sitting = new Sitting(empty);
        for (int i = 0; i < MOST_MARKS; i++) {
            marks[i] = new Mark(empty);
        }
        Arrays.fill(traySorts, NONE);
    }

    public int status() {
        return status;
    }

    public long top() {
        return top;
    }

    public long bottom() {
        return bottom;
    }

    // ---- TRAYS

    public boolean tray(int tray, int sort, int many) {
        if (!below(tray, TRAYS) || !below(sort, SORTS) || !below(many, TRAY_PLACES + 1)) {
            return deny(NUMBER_CANT_BE);
        }
        traySorts[tray] = sort;
        traySizes[tray] = many;
        int start = tray * TRAY_PLACES;
        Arrays.fill(trayPlaces, start, start + TRAY_PLACES, 0L);
        return grant();
    }

    public boolean write(int tray, int place, long v) {
        int why = whyNoPlace(tray, place);
        if (why != 0) {
            return deny(why);
        }
        trayPlaces[tray * TRAY_PLACES + place] = cut(v, traySorts[tray]);
        return grant();
    }

    public long read(int tray, int place) {
        int why = whyNoPlace(tray, place);
        if (why != 0) {
            return refuse(why);
        }
        status = 0;
        return trayPlaces[tray * TRAY_PLACES + place];
    }

    public boolean pour(int from, int place, int to, int at, int many) {
        if (!below(from, TRAYS) || !below(to, TRAYS) || place < 0 || at < 0 || many < 0) {
            return deny(NUMBER_CANT_BE);
        }
        if (traySorts[from] == NONE || traySorts[to] == NONE) {
            return deny(TRAY_IS_MISSING);
        }
        if (traySorts[from] != traySorts[to]) {
            return deny(UNLIKE_SORTS);
        }
        if ((long) place + many > traySizes[from] || (long) at + many > traySizes[to]) {
            return deny(NO_SUCH_PLACE);
        }
        System.arraycopy(trayPlaces, from * TRAY_PLACES + place, trayPlaces, to * TRAY_PLACES + at, many);
        return grant();
    }

    private int whyNoPlace(int tray, int place) {
        if (!below(tray, TRAYS)) {
            return NUMBER_CANT_BE;
        }
        if (traySorts[tray] == NONE) {
            return TRAY_IS_MISSING;
        }
        return below(place, traySizes[tray]) ? 0 : NO_SUCH_PLACE;
    }

    private static long cut(long v, int sort) {
        switch (sort) {
            case 0:
                return (byte) v;
            case 1:
                return (short) v;
            case 2:
                return (int) v;
            default:
                return v;
        }
    }

    // ---- the CASE

    public int feed(int a, int b, int c, int d, int e) {
        if (lexer.taped + 20 > TAPE_BYTES) {
            return NONE;
        }
        lexer.putBytes(a);
        lexer.putBytes(b);
        lexer.putBytes(c);
        lexer.putBytes(d);
        lexer.putBytes(e);
        return lexer.taped;
    }

    public int court(int n) {
        if (!below(n, lexer.taped + 1)) {
            return refuse(NUMBER_CANT_BE);
        }
        Case next = freeCase();
        lexer.open(n);
        if (!caseReader.readCase(next)) {
            return refuse(HAS_FAULT);
        }
        caseNow = next;
        planNow.there = false;
        hearing.begin(next);
        return give(next.possible);
    }

    public int plan(int n) {
        if (!below(n, lexer.taped + 1) || n > PLAN_BYTES) {
            return refuse(NUMBER_CANT_BE);
        }
        lexer.open(n);
        if (!planDraft.readSteps(lexer, caseNow.names)) {
            return refuse(HAS_FAULT);
        }
        Plan old = planNow;
        planNow = planDraft;
        planDraft = old;
        return give(planNow.steps);
    }

    public int fault(int what) {
        switch (what) {
            case 0:
                return lexer.fault;
            case 1:
                return lexer.faultPlace;
            default:
                return NONE;
        }
    }

    public int told(int what) {
        switch (what) {
            case 0:
                return give(caseNow.facts);
            case 1:
                return give(caseNow.values);
            case 2:
                return give(caseNow.worlds);
            case 3:
                return give(caseNow.questions);
            case 4:
                return give(caseNow.witnesses);
            case 5:
                return give(hearing.minutes.day);
            case 6:
                return give(hearing.minutes.count);
            case 7:
                return give(hearing.minutes.putToday());
            default:
                return refuse(NUMBER_CANT_BE);
        }
    }

    public int value(int value, int what) {
        if (!below(value, caseNow.values) || !below(what, 2)) {
            return refuse(NUMBER_CANT_BE);
        }
        return give(what == 0 ? caseNow.valueFact[value] : caseNow.valueWeight[value]);
    }

    public int world(int world, int fact) {
        if (!below(world, caseNow.worlds) || !below(fact, caseNow.facts)) {
            return refuse(NUMBER_CANT_BE);
        }
        return give(caseNow.valueIn(world, fact));
    }

    public int possible(int world) {
        if (!below(world, caseNow.worlds)) {
            return refuse(NUMBER_CANT_BE);
        }
        return give(caseNow.canBe(world) ? 1 : 0);
    }

    public int holds(int question, int world) {
        if (!below(question, caseNow.questions) || !below(world, caseNow.worlds)) {
            return refuse(NUMBER_CANT_BE);
        }
        return give(caseNow.inQuestion(question, world));
    }

    public int fee(int question) {
        if (!below(question, caseNow.questions)) {
            return refuse(NUMBER_CANT_BE);
        }
        return give(caseNow.fee[question]);
    }

    public int witness(int witness, int what) {
        if (!below(witness, caseNow.witnesses) || !below(what, KINDS + 2)) {
            return refuse(NUMBER_CANT_BE);
        }
        if (what < KINDS) {
            return give(caseNow.sixteenths[witness * KINDS + what]);
        }
        return give(what == KINDS ? caseNow.knows[witness] : caseNow.hides[witness]);
    }

    public int answer(int witness, int question, int world, int kind) {
        if (!below(witness, caseNow.witnesses) || !below(question, caseNow.questions)
                || !below(world, caseNow.worlds) || !below(kind, KINDS)) {
            return refuse(NUMBER_CANT_BE);
        }
        if (!caseNow.canBe(world)) {
            return refuse(CANT_BE);
        }
        return give(Case.answerOf(caseNow.packedAnswers(witness, question, world), kind));
    }

    /** A case that neither the present nor a mark holds; a fault then spoils nothing. */
    private Case freeCase() {
        for (int i = 0; i < cases.length; i++) {
            Case one = cases[i];
            if (one == null) {
                one = new Case();
                cases[i] = one;
                return one;
            }
            if (one != caseNow && !isMarked(one)) {
                return one;
            }
        }
        return new Case();
    }

    private boolean isMarked(Case one) {
        for (int i = 0; i < marked; i++) {
            if (marks[i].file == one) {
                return true;
            }
        }
        return false;
    }

    // ---- what is HEARD

    public boolean hear(int witness, int question, int answer) {
        if (!below(witness, caseNow.witnesses) || !below(question, caseNow.questions)
                || !below(answer, 2 * caseNow.questions)) {
            return deny(NUMBER_CANT_BE);
        }
        if (hearing.minutes.putToday() >= MOST_PUT_ON_A_DAY) {
            return deny(ONE_TOO_MANY);
        }
        if (hearing.wasPut(question)) {
            return deny(CANT_BE);
        }
        hearing.enter(witness, question, answer);
        return grant();
    }

    public int unsay() {
        if (hearing.minutes.count == 0) {
            return refuse(NONE_SUCH);
        }
        hearing.strike();
        return give(hearing.minutes.count);
    }

    public int nextDay() {
        if (hearing.minutes.day >= LAST_DAY) {
            return refuse(ONE_TOO_MANY);
        }
        hearing.minutes.day++;
        return give(hearing.minutes.day);
    }

    public int heard(int k, int what) {
        if (!below(what, 4)) {
            return refuse(NUMBER_CANT_BE);
        }
        if (!below(k, hearing.minutes.count)) {
            return refuse(NONE_SUCH);
        }
        switch (what) {
            case 0:
                return give(hearing.minutes.who[k]);
            case 1:
                return give(hearing.minutes.asked[k]);
            case 2:
                return give(hearing.minutes.said[k]);
            default:
                return give(hearing.minutes.days[k]);
        }
    }

    public int left() {
        return give(hearing.living);
    }

    public int isLeft(int world) {
        if (!below(world, caseNow.worlds)) {
            return refuse(NUMBER_CANT_BE);
        }
        return give(hearing.lives(world) ? 1 : 0);
    }

    public int fits(int witness, int kind, int world) {
        if (!below(witness, caseNow.witnesses) || !below(kind, KINDS) || !below(world, caseNow.worlds)) {
            return refuse(NUMBER_CANT_BE);
        }
        if (!caseNow.canBe(world)) {
            return refuse(CANT_BE);
        }
        return give(hearing.kindsLeft(witness, world) >> kind & 1);
    }

    public int sure(int question) {
        if (!below(question, caseNow.questions)) {
            return refuse(NUMBER_CANT_BE);
        }
        int certain = hearing.certainty(question);
        return certain == NONE ? refuse(NONE_SUCH) : give(certain);
    }

    public boolean chance(int question) {
        if (!below(question, caseNow.questions)) {
            return deny(NUMBER_CANT_BE);
        }
        if (hearing.living == 0) {
            return deny(NONE_SUCH);
        }
        tell(hearing.weightIn(question), hearing.weightOfAll());
        return grant();
    }

    public boolean trust(int witness, int kind) {
        if (!below(witness, caseNow.witnesses) || !below(kind, KINDS)) {
            return deny(NUMBER_CANT_BE);
        }
        if (hearing.living == 0) {
            return deny(NONE_SUCH);
        }
        tell(hearing.weightWith(witness, kind), hearing.weightOfAll());
        return grant();
    }

    public int because(int question) {
        if (!below(question, caseNow.questions)) {
            return refuse(NUMBER_CANT_BE);
        }
        int certain = hearing.certainty(question);
        return certain == NONE ? refuse(NONE_SUCH) : give(search.leastProof(question, certain));
    }

    public int gave(int k) {
        if (!below(k, hearing.minutes.count)) {
            return refuse(NONE_SUCH);
        }
        return give(hearing.takenAwayBy(k));
    }

    public int fees() {
        return give(hearing.costs());
    }

    /** Tells a fraction of nothing below 0, without a common divisor. */
    private void tell(long over, long under) {
        long a = under;
        long b = over;
        for (int i = 0; i < 200 && b != 0; i++) {
            long rest = a % b;
            a = b;
            b = rest;
        }
        if (a > 0) {
            top = over / a;
            bottom = under / a;
        }
    }

    // ---- what to put

    public int worst(int witness, int question) {
        if (!below(witness, caseNow.witnesses) || !below(question, caseNow.questions)) {
            return refuse(NUMBER_CANT_BE);
        }
        if (hearing.living == 0) {
            return refuse(NONE_SUCH);
        }
        if (hearing.wasPut(question)) {
            return refuse(CANT_BE);
        }
        return give(hearing.mostLeftBehind(witness, question));
    }

    public int best(int witness) {
        if (!below(witness, caseNow.witnesses)) {
            return refuse(NUMBER_CANT_BE);
        }
        int question = hearing.bestFor(witness);
        return question == NONE ? refuse(NONE_SUCH) : give(question);
    }

    public int shortest(int question, int witness) {
        if (!below(question, caseNow.questions) || witness != NONE && !below(witness, caseNow.witnesses)) {
            return refuse(NUMBER_CANT_BE);
        }
        if (hearing.living == 0) {
            return refuse(NONE_SUCH);
        }
        if (hearing.certainty(question) != NONE) {
            firstPut = NONE;
            return give(0);
        }
        search.begin(question, witness);
        int most = witness == NONE ? SHORTEST_TO_ANY : SHORTEST_TO_ONE;
        for (int many = 1; many <= most; many++) {
            int found = search.firstOf(0, many, hearing.put);
            if (found != NONE) {
                firstPut = found;
                return give(many);
            }
        }
        return refuse(NONE_SUCH);
    }

    public int shortestFirst(int what) {
        if (!below(what, 2)) {
            return refuse(NUMBER_CANT_BE);
        }
        if (firstPut == NONE) {
            return refuse(NONE_SUCH);
        }
        return give(what == 0 ? firstPut / MOST_QUESTIONS : firstPut % MOST_QUESTIONS);
    }

    public int settled() {
        int many = 0;
        for (int q = 0; q < caseNow.questions; q++) {
            if (!hearing.wasPut(q) && hearing.certainty(q) != NONE) {
                many++;
            }
        }
        return give(many);
    }

    // ---- another bench

    public int bench() {
        return give(hearing.leftIfHonest());
    }

    public int clash() {
        int k = hearing.firstClash();
        return k == NONE ? refuse(NONE_SUCH) : give(k);
    }

    public int liars() {
        if (hearing.living == 0) {
            return refuse(NONE_SUCH);
        }
        return give(hearing.neverHonest());
    }

    // ---- drawn

    public int sit(int seed) {
        if (!below(seed, LAST_SEED + 1)) {
            return refuse(NUMBER_CANT_BE);
        }
        if (!canSit()) {
            return refuse(NONE_SUCH);
        }
        int end = sitting.holdCourt(caseNow, planNow, seed);
        satRow[0] = sitting.hearing.minutes.count;
        satRow[1] = sitting.hearing.costs();
        satRow[2] = sitting.hearing.minutes.day;
        satRow[3] = sitting.trueWorld;
        satRow[4] = sitting.hearing.living;
        satRow[5] = sitting.dishonest();
        everSat = true;
        return give(end);
    }

    public int sat(int what) {
        if (!below(what, satRow.length)) {
            return refuse(NUMBER_CANT_BE);
        }
        return everSat ? give(satRow[what]) : refuse(NONE_SUCH);
    }

    public int tally(int seed, int many, int end) {
        if (!below(seed, LAST_SEED + 1) || many < 1 || many > MOST_SEEDS
                || seed + many - 1 > LAST_SEED || !below(end, NO_VERDICT + 1)) {
            return refuse(NUMBER_CANT_BE);
        }
        if (!canSit()) {
            return refuse(NONE_SUCH);
        }
        int such = 0;
        for (int i = 0; i < many; i++) {
            if (sitting.holdCourt(caseNow, planNow, seed + i) == end) {
                such++;
            }
        }
        return give(such);
    }

    private boolean canSit() {
        return planNow.there && caseNow.possible > 0;
    }

    // ---- MARKS

    public int mark() {
        if (marked >= MOST_MARKS) {
            return refuse(ONE_TOO_MANY);
        }
        marks[marked].keep(caseNow, planNow, hearing.minutes);
        marked++;
        return give(marked);
    }

    public int back() {
        if (marked == 0) {
            return refuse(NONE_SUCH);
        }
        marked--;
        Mark latest = marks[marked];
        caseNow = latest.file;
        planNow.copyFrom(latest.plan);
        hearing.resume(latest.file, latest.minutes);
        return give(marked);
    }

    private static boolean below(int number, int bound) {
        return number >= 0 && number < bound;
    }

    private int give(int result) {
        status = 0;
        return result;
    }

    private int refuse(int why) {
        status = why;
        return NONE;
    }

    private boolean grant() {
        status = 0;
        return true;
    }

    private boolean deny(int why) {
        status = why;
        return false;
    }

    /** The tape, the tokens of a text that stands on it, and the first fault found there. */
    private static final class Lexer {
        final byte[] tape = new byte[TAPE_BYTES];
        private final long[] words = new long[WORD_COUNT];
        private final int[] tokens = new int[MOST_TOKENS];
        private final int[] places = new int[MOST_TOKENS];
        private final int[] numbers = new int[MOST_TOKENS];
        private final long[] codes = new long[MOST_TOKENS];
        int taped = 0;
        private int length = 0;
        private int behind = 0;
        /** Which token is looked at, and what it is. */
        private int at = 0;
        int token = TEXT_END;
        long name = 0;
        int fault = NONE;
        int faultPlace = NONE;

        Lexer() {
            long code = 0;
            int many = 0;
            for (int i = 0; i < WORDS.length() && many < WORD_COUNT; i++) {
                char c = WORDS.charAt(i);
                if (c == ' ') {
                    words[many] = code;
                    many++;
                    code = 0;
                } else {
                    code = withLetter(code, c);
                }
            }
        }

        void putBytes(int four) {
            for (int shift = 24; shift >= 0 && taped < TAPE_BYTES; shift -= 8) {
                tape[taped] = (byte) (four >> shift);
                taped++;
            }
        }

        /** Stands at the first token of the first n bytes; the tape counts as empty from here on. */
        void open(int n) {
            length = n;
            taped = 0;
            behind = 0;
            fault = 0;
            faultPlace = NONE;
            boolean more = true;
            for (int i = 0; i < MOST_TOKENS && more; i++) {
                tokens[i] = scan(i);
                more = tokens[i] != TEXT_END && tokens[i] != BROKEN;
            }
            at = NONE;
            advance();
        }

        /** Finds the i-th token; nothing is read behind a broken one. */
        private int scan(int i) {
            while (behind < length && isBlank(tape[behind])) {
                behind++;
            }
            places[i] = behind;
            if (behind >= length) {
                return TEXT_END;
            }
            if (isLetter(tape[behind])) {
                return scanWord(i);
            }
            if (isDigit(tape[behind])) {
                return scanNumber(i);
            }
            behind++;
            return signOf(tape[behind - 1]);
        }

        private int scanWord(int i) {
            long code = 0;
            int letters = 0;
            while (behind < length && isLetter(tape[behind])) {
                if (letters < LONGEST_NAME) {
                    code = withLetter(code, tape[behind]);
                }
                letters++;
                behind++;
            }
            codes[i] = code;
            if (letters > LONGEST_NAME) {
                return LONG_WORD;
            }
            for (int word = 0; word < WORD_COUNT; word++) {
                if (words[word] == code) {
                    return FACT + word;
                }
            }
            return NAME;
        }

        private int scanNumber(int i) {
            int number = 0;
            int digits = 0;
            while (behind < length && isDigit(tape[behind])) {
                if (digits < LONGEST_NUMBER) {
                    number = number * 10 + (tape[behind] - '0');
                }
                digits++;
                behind++;
            }
            numbers[i] = number;
            return digits > LONGEST_NUMBER ? BROKEN : NUMBER;
        }

        void advance() {
            if (at < MOST_TOKENS - 1) {
                at++;
            }
            token = tokens[at];
            name = codes[at];
        }

        /** Goes past a token that must stand here. */
        boolean take(int wanted) {
            if (token != wanted) {
                return refuseHere(FAULT_CANT_STAND);
            }
            advance();
            return true;
        }

        /** Goes past a number of a range and gives it, or NONE with a fault. */
        int takeNumber(int least, int most) {
            if (token != NUMBER) {
                refuseHere(FAULT_CANT_STAND);
                return NONE;
            }
            int number = numbers[at];
            if (number < least || number > most) {
                refuseHere(FAULT_NUMBER);
                return NONE;
            }
            advance();
            return number;
        }

        /** The number of the thing whose name stands here, or NONE with a fault; goes not past it. */
        int seekName(Names names, int sort) {
            if (token != NAME) {
                refuseHere(FAULT_CANT_STAND);
                return NONE;
            }
            int found = names.numberOf(name, sort);
            if (found == NONE) {
                refuseHere(FAULT_NAME);
            }
            return found;
        }

        /** As seekName, but goes past it. */
        int takeName(Names names, int sort) {
            int found = seekName(names, sort);
            if (found != NONE) {
                advance();
            }
            return found;
        }

        /** Keeps the fault at this token; the text is read no further then. */
        boolean refuseHere(int kind) {
            fault = token == BROKEN ? FAULT_NO_TOKEN : kind;
            faultPlace = places[at];
            return false;
        }

        private static boolean isBlank(int c) {
            return c == 10 || c == 32;
        }

        private static boolean isLetter(int c) {
            return c >= 'a' && c <= 'z';
        }

        private static boolean isDigit(int c) {
            return c >= '0' && c <= '9';
        }

        private static int signOf(int c) {
            switch (c) {
                case ';':
                    return SEMICOLON;
                case '(':
                    return OPEN;
                case ')':
                    return CLOSE;
                default:
                    return BROKEN;
            }
        }

        /** Eight letters of five bits each make a name one number. */
        private static long withLetter(long code, int letter) {
            return code << 5 | (letter - 'a' + 1);
        }
    }

    /** Which name is of which thing. */
    private static final class Names {
        final long[] codes = new long[MOST_NAMES];
        final int[] sorts = new int[MOST_NAMES];
        final int[] numbers = new int[MOST_NAMES];
        int count = 0;

        void add(long code, int sort, int number) {
            if (count < MOST_NAMES) {
                codes[count] = code;
                sorts[count] = sort;
                numbers[count] = number;
                count++;
            }
        }

        boolean isTaken(long code) {
            for (int i = 0; i < count; i++) {
                if (codes[i] == code) {
                    return true;
                }
            }
            return false;
        }

        int numberOf(long code, int sort) {
            for (int i = 0; i < count; i++) {
                if (codes[i] == code && sorts[i] == sort) {
                    return numbers[i];
                }
            }
            return NONE;
        }
    }

    /** A case that was read, with what each witness would answer in each world. */
    private static final class Case {
        final Names names = new Names();
        /** The first value of each fact; behind the last fact how many values there are. */
        final int[] firstValue = new int[MOST_FACTS + 1];
        final int[] stride = new int[MOST_FACTS];
        final int[] valueFact = new int[MOST_VALUES];
        final int[] valueWeight = new int[MOST_VALUES];
        /** The values' weights times one another; 0 for a world that can't be. */
        final int[] weight = new int[MOST_WORLDS];
        final int[] questionsWith = new int[MOST_WORLDS];
        final int[] fee = new int[MOST_QUESTIONS];
        final int[] sixteenths = new int[MOST_WITNESSES * KINDS];
        final int[] knows = new int[MOST_WITNESSES];
        final int[] hides = new int[MOST_WITNESSES];
        final int[] answers = new int[MOST_WITNESSES * MOST_QUESTIONS * MOST_WORLDS];
        int facts;
        int values;
        int worlds;
        int possible;
        int questions;
        int witnesses;
        /** Which kinds the witnesses may be; who is not there may be any. */
        int may;

        Case() {
            clear();
        }

        void clear() {
            names.count = 0;
            facts = 0;
            values = 0;
            questions = 0;
            witnesses = 0;
            worlds = 1;
            possible = 1;
            weight[0] = 1;
            questionsWith[0] = 0;
            may = ALL_KINDS;
            Arrays.fill(sixteenths, 0);
            Arrays.fill(knows, 0);
            Arrays.fill(hides, 0);
        }

        int valueIn(int world, int fact) {
            int many = firstValue[fact + 1] - firstValue[fact];
            if (stride[fact] < 1 || many < 1) {
                return NONE;
            }
            return firstValue[fact] + world / stride[fact] % many;
        }

        boolean canBe(int world) {
            return weight[world] > 0;
        }

        int inQuestion(int question, int world) {
            return questionsWith[world] >> question & 1;
        }

        /** never has for each value the set of those that can't be together with it. */
        void makeWorlds(int[] never) {
            int step = 1;
            for (int f = facts - 1; f >= 0; f--) {
                stride[f] = step;
                step *= firstValue[f + 1] - firstValue[f];
            }
            worlds = Math.min(step, MOST_WORLDS);
            possible = 0;
            for (int w = 0; w < worlds; w++) {
                questionsWith[w] = 0;
                weight[w] = weigh(w, never);
                if (weight[w] > 0) {
                    possible++;
                }
            }
        }

        private int weigh(int world, int[] never) {
            int product = 1;
            int together = 0;
            for (int f = 0; f < facts; f++) {
                int v = valueIn(world, f);
                if (v < 0 || (never[v] & together) != 0) {
                    return 0;
                }
                together |= 1 << v;
                product *= valueWeight[v];
            }
            return product;
        }

        void keepAnswers(int witness, int question, int world, int packed) {
            answers[(witness * MOST_QUESTIONS + question) * MOST_WORLDS + world] = packed;
        }

        /** The answers of all four kinds of a witness. */
        int packedAnswers(int witness, int question, int world) {
            return answers[(witness * MOST_QUESTIONS + question) * MOST_WORLDS + world];
        }

        static int answerOf(int packed, int kind) {
            return packed >> kind * ANSWER_BITS & ANSWER_MASK;
        }

        /** Which kinds answer so. */
        static int kindsAnswering(int packed, int answer) {
            int such = 0;
            int rest = packed;
            for (int k = 0; k < KINDS; k++) {
                if ((rest & ANSWER_MASK) == answer) {
                    such |= 1 << k;
                }
                rest >>= ANSWER_BITS;
            }
            return such;
        }

        /** The set of answers that some kinds give. */
        static int answersOf(int packed, int kinds) {
            int set = 0;
            int rest = packed;
            for (int k = 0; k < KINDS; k++) {
                if ((kinds >> k & 1) != 0) {
                    set |= 1 << (rest & ANSWER_MASK);
                }
                rest >>= ANSWER_BITS;
            }
            return set;
        }
    }

    /** Reads the text of a case, part by part, and stops at its first fault. */
    private static final class CaseReader {
        private static final int SET_LONGS = 4;
        /** Each level of nesting has a set for EITHER, one for BOTH and one for ONE. */
        private static final int SETS_OF_A_LEVEL = 3;

        private final Lexer lexer;
        private final AnswerMaker answerMaker = new AnswerMaker();
        private final int[] never = new int[MOST_VALUES];
        private final long[] valueSets = new long[MOST_VALUES * SET_LONGS];
        private final long[] all = new long[SET_LONGS];
        private final long[] sets = new long[(MOST_NESTING + 1) * SETS_OF_A_LEVEL * SET_LONGS];
        private Case file;
        private boolean worldsMade = false;

        CaseReader(Lexer tokens, Case first) {
            lexer = tokens;
            file = first;
        }

        boolean readCase(Case into) {
            file = into;
            file.clear();
            worldsMade = false;
            Arrays.fill(never, 0);
            boolean good = true;
            for (int i = 0; i < MOST_TOKENS && good && lexer.token != TEXT_END; i++) {
                switch (lexer.token) {
                    case FACT:
                        good = readFact();
                        break;
                    case NEVER:
                        good = readNever();
                        break;
                    case QUESTION:
                        good = readQuestion();
                        break;
                    case WITNESS:
                        good = readWitness();
                        break;
                    default:
                        good = lexer.refuseHere(FAULT_CANT_STAND);
                        break;
                }
            }
            if (good) {
                makeWorldsOnce();
                answerMaker.fillAnswers(file);
            }
            return good;
        }

        private boolean readFact() {
            if (file.facts >= MOST_FACTS) {
                return lexer.refuseHere(FAULT_TOO_MANY);
            }
            if (file.questions > 0) {
                return lexer.refuseHere(FAULT_ORDER);
            }
            lexer.advance();
            if (!takeNewName(A_FACT, file.facts) || !lexer.take(HAS)) {
                return false;
            }
            file.firstValue[file.facts] = file.values;
            for (int i = 0; i <= MOST_VALUES_OF_A_FACT && (i == 0 || lexer.token != SEMICOLON); i++) {
                if (!readValue(i)) {
                    return false;
                }
            }
            return closeFact();
        }

        private boolean readValue(int before) {
            if (!isNewName()) {
                return false;
            }
            if (before >= MOST_VALUES_OF_A_FACT) {
                return lexer.refuseHere(FAULT_TOO_MANY);
            }
            int v = file.values;
            file.names.add(lexer.name, A_VALUE, v);
            file.valueFact[v] = file.facts;
            file.valueWeight[v] = 1;
            file.values++;
            lexer.advance();
            if (lexer.token == NUMBER) {
                file.valueWeight[v] = lexer.takeNumber(1, 9);
            }
            return lexer.fault == 0;
        }

        private boolean closeFact() {
            int many = file.values - file.firstValue[file.facts];
            if (many < 2 || file.worlds * many > MOST_WORLDS) {
                return lexer.refuseHere(FAULT_SUM);
            }
            file.worlds *= many;
            file.facts++;
            file.firstValue[file.facts] = file.values;
            return lexer.take(SEMICOLON);
        }

        private boolean readNever() {
            if (file.questions > 0) {
                return lexer.refuseHere(FAULT_ORDER);
            }
            lexer.advance();
            int one = lexer.takeName(file.names, A_VALUE);
            if (one == NONE) {
                return false;
            }
            int two = lexer.seekName(file.names, A_VALUE);
            if (two == NONE) {
                return false;
            }
            if (file.valueFact[one] == file.valueFact[two]) {
                return lexer.refuseHere(FAULT_AGAIN);
            }
            never[one] |= 1 << two;
            never[two] |= 1 << one;
            lexer.advance();
            return lexer.take(SEMICOLON);
        }

        private boolean readQuestion() {
            int q = file.questions;
            if (q >= MOST_QUESTIONS) {
                return lexer.refuseHere(FAULT_TOO_MANY);
            }
            lexer.advance();
            if (!takeNewName(A_QUESTION, q) || !lexer.take(FEE)) {
                return false;
            }
            int fee = lexer.takeNumber(0, 99);
            if (fee == NONE || !lexer.take(ASKS)) {
                return false;
            }
            makeWorldsOnce();
            if (!readEither(0) || !lexer.take(SEMICOLON)) {
                return false;
            }
            file.fee[q] = fee;
            for (int w = 0; w < file.worlds; w++) {
                if ((sets[w >> 6] >> (w & 63) & 1) != 0) {
                    file.questionsWith[w] |= 1 << q;
                }
            }
            file.questions++;
            return true;
        }

        private boolean readWitness() {
            int v = file.witnesses;
            if (v >= MOST_WITNESSES) {
                return lexer.refuseHere(FAULT_TOO_MANY);
            }
            lexer.advance();
            if (!takeNewName(A_WITNESS, v)) {
                return false;
            }
            if (lexer.token == KNOWS) {
                lexer.advance();
                file.knows[v] = takeNames(A_FACT, MAY);
            }
            if (lexer.fault != 0 || !lexer.take(MAY) || !readKinds(v)) {
                return false;
            }
            if (lexer.token == HIDES) {
                lexer.advance();
                file.hides[v] = takeNames(A_QUESTION, SEMICOLON);
            }
            file.witnesses++;
            return lexer.fault == 0 && lexer.take(SEMICOLON);
        }

        /** One name or more up to a token, each of its own thing: their set, or a fault. */
        private int takeNames(int sort, int upTo) {
            int set = 0;
            for (int i = 0; i < MOST_TOKENS && (i == 0 || lexer.token != upTo); i++) {
                int number = lexer.seekName(file.names, sort);
                if (number == NONE) {
                    return 0;
                }
                if ((set >> number & 1) != 0) {
                    lexer.refuseHere(FAULT_AGAIN);
                    return 0;
                }
                set |= 1 << number;
                lexer.advance();
            }
            return set;
        }

        private boolean readKinds(int witness) {
            int kinds = 0;
            int sum = 0;
            for (int i = 0; i < MOST_TOKENS && (i == 0 || isKind(lexer.token)); i++) {
                if (!isKind(lexer.token)) {
                    return lexer.refuseHere(FAULT_CANT_STAND);
                }
                int kind = lexer.token - HONEST;
                if ((kinds >> kind & 1) != 0) {
                    return lexer.refuseHere(FAULT_AGAIN);
                }
                kinds |= 1 << kind;
                lexer.advance();
                int many = lexer.takeNumber(1, SIXTEENTHS);
                if (many == NONE) {
                    return false;
                }
                file.sixteenths[witness * KINDS + kind] = many;
                sum += many;
            }
            if (lexer.token != HIDES && lexer.token != SEMICOLON) {
                return lexer.refuseHere(FAULT_CANT_STAND);
            }
            file.may &= ~(KINDS_OF_ONE << witness * KINDS) | kinds << witness * KINDS;
            return sum == SIXTEENTHS || lexer.refuseHere(FAULT_SUM);
        }

        private static boolean isKind(int token) {
            return token >= HONEST && token <= SILENT;
        }

        private boolean isNewName() {
            if (lexer.token != NAME) {
                return lexer.refuseHere(FAULT_CANT_STAND);
            }
            return !file.names.isTaken(lexer.name) || lexer.refuseHere(FAULT_NAME);
        }

        private boolean takeNewName(int sort, int number) {
            if (!isNewName()) {
                return false;
            }
            file.names.add(lexer.name, sort, number);
            lexer.advance();
            return true;
        }

        /** No fact and no never may follow a question, so the first question fixes the worlds. */
        private void makeWorldsOnce() {
            if (worldsMade) {
                return;
            }
            worldsMade = true;
            file.makeWorlds(never);
            Arrays.fill(all, 0L);
            Arrays.fill(valueSets, 0L);
            for (int w = 0; w < file.worlds; w++) {
                if (file.canBe(w)) {
                    long bit = 1L << (w & 63);
                    all[w >> 6] |= bit;
                    for (int f = 0; f < file.facts; f++) {
                        valueSets[file.valueIn(w, f) * SET_LONGS + (w >> 6)] |= bit;
                    }
                }
            }
        }

        /** The result stands in the level's first set. */
        private boolean readEither(int level) {
            int either = level * SETS_OF_A_LEVEL * SET_LONGS;
            int both = either + SET_LONGS;
            if (!readBoth(level)) {
                return false;
            }
            System.arraycopy(sets, both, sets, either, SET_LONGS);
            for (int i = 0; i < MOST_TOKENS && lexer.token == OR; i++) {
                lexer.advance();
                if (!readBoth(level)) {
                    return false;
                }
                for (int j = 0; j < SET_LONGS; j++) {
                    sets[either + j] |= sets[both + j];
                }
            }
            return true;
        }

        /** The result stands in the level's second set. */
        private boolean readBoth(int level) {
            int both = (level * SETS_OF_A_LEVEL + 1) * SET_LONGS;
            int one = both + SET_LONGS;
            if (!readOne(level)) {
                return false;
            }
            System.arraycopy(sets, one, sets, both, SET_LONGS);
            for (int i = 0; i < MOST_TOKENS && lexer.token == AND; i++) {
                lexer.advance();
                if (!readOne(level)) {
                    return false;
                }
                for (int j = 0; j < SET_LONGS; j++) {
                    sets[both + j] &= sets[one + j];
                }
            }
            return true;
        }

        /** The result stands in the level's third set. */
        private boolean readOne(int level) {
            int one = (level * SETS_OF_A_LEVEL + 2) * SET_LONGS;
            int deeper = (level + 1) * SETS_OF_A_LEVEL * SET_LONGS;
            if (lexer.token != NOT && lexer.token != OPEN) {
                int v = lexer.seekName(file.names, A_VALUE);
                if (v == NONE) {
                    return false;
                }
                lexer.advance();
                System.arraycopy(valueSets, v * SET_LONGS, sets, one, SET_LONGS);
                return true;
            }
            if (level >= MOST_NESTING) {
                return lexer.refuseHere(FAULT_ORDER);
            }
            if (lexer.token == NOT) {
                lexer.advance();
                if (!readOne(level + 1)) {
                    return false;
                }
                for (int j = 0; j < SET_LONGS; j++) {
                    sets[one + j] = all[j] & ~sets[deeper + 2 * SET_LONGS + j];
                }
                return true;
            }
            lexer.advance();
            if (!readEither(level + 1) || !lexer.take(CLOSE)) {
                return false;
            }
            System.arraycopy(sets, deeper, sets, one, SET_LONGS);
            return true;
        }
    }

    /**
     * Works out what each witness of each kind would answer. Sets of sayings have a bit for each
     * answer's number, so the first saying is the lowest bit.
     */
    private static final class AnswerMaker {
        /** For each set that a witness can know, by its first thinkable world: the questions that hold it. */
        private final int[] holdAll = new int[MOST_WORLDS];
        /** Likewise: the questions that have some of it. */
        private final int[] holdSome = new int[MOST_WORLDS];
        /** For each question: the sayings that have some of it, and those that have some it has not. */
        private final int[] meeting = new int[MOST_QUESTIONS];
        private final int[] leaving = new int[MOST_QUESTIONS];
        private int notEverything = 0;

        void fillAnswers(Case file) {
            relateSayings(file);
            for (int v = 0; v < file.witnesses; v++) {
                gatherKnown(file, v);
                for (int w = 0; w < file.worlds; w++) {
                    if (file.canBe(w)) {
                        fillWorld(file, v, w);
                    }
                }
            }
        }

        private void relateSayings(Case file) {
            notEverything = 0;
            Arrays.fill(meeting, 0);
            Arrays.fill(leaving, 0);
            for (int w = 0; w < file.worlds; w++) {
                if (!file.canBe(w)) {
                    continue;
                }
                int sayings = sayingsOf(file.questionsWith[w], ~file.questionsWith[w]);
                notEverything |= ~sayings;
                for (int q = 0; q < file.questions; q++) {
                    if (file.inQuestion(q, w) == 1) {
                        meeting[q] |= sayings;
                    } else {
                        leaving[q] |= sayings;
                    }
                }
            }
        }

        private void gatherKnown(Case file, int witness) {
            Arrays.fill(holdAll, -1);
            Arrays.fill(holdSome, 0);
            for (int w = 0; w < file.worlds; w++) {
                if (file.canBe(w)) {
                    int known = knownIn(file, witness, w);
                    holdAll[known] &= file.questionsWith[w];
                    holdSome[known] |= file.questionsWith[w];
                }
            }
        }

        /** The same number for all worlds that a witness can't tell from one another. */
        private static int knownIn(Case file, int witness, int world) {
            int known = 0;
            for (int f = 0; f < file.facts; f++) {
                if ((file.knows[witness] >> f & 1) != 0) {
                    known += (file.valueIn(world, f) - file.firstValue[f]) * file.stride[f];
                }
            }
            return known;
        }

        private void fillWorld(Case file, int witness, int world) {
            int known = knownIn(file, witness, world);
            int sayings = sayingsOf(holdAll[known], ~holdSome[known])
                    & (1 << 2 * file.questions) - 1;
            for (int q = 0; q < file.questions; q++) {
                int echo = 2 * q;
                int other = firstOr(sayings & otherThan(q), echo);
                int honest = other;
                int turned = other;
                if ((file.hides[witness] >> q & 1) == 0) {
                    honest = firstOr(sayings & honestTo(q, known), echo);
                    turned = honest == echo ? echo : honest ^ 1;
                }
                file.keepAnswers(witness, q, world, honest
                        | turned << ANSWER_BITS
                        | other << 2 * ANSWER_BITS
                        | echo << 3 * ANSWER_BITS);
            }
        }

        private int honestTo(int question, int known) {
            if ((holdAll[known] >> question & 1) != 0) {
                return ~leaving[question] & ~(1 << 2 * question);
            }
            return (holdSome[known] >> question & 1) == 0 ? ~meeting[question] : 0;
        }

        private int otherThan(int question) {
            return meeting[question] & leaving[question] & notEverything & ~(3 << 2 * question);
        }

        /** Those questions asked once, and these asked twice. */
        private static int sayingsOf(int once, int twice) {
            int set = 0;
            for (int q = 0; q < MOST_QUESTIONS; q++) {
                set |= (once >> q & 1) << 2 * q | (twice >> q & 1) << 2 * q + 1;
            }
            return set;
        }

        private static int firstOr(int sayings, int echo) {
            return sayings == 0 ? echo : Integer.bitCount((sayings & -sayings) - 1);
        }
    }

    /** What was asked and heard, in order. */
    private static final class Minutes {
        final int[] who = new int[MOST_QUESTIONS];
        final int[] asked = new int[MOST_QUESTIONS];
        final int[] said = new int[MOST_QUESTIONS];
        final int[] days = new int[MOST_QUESTIONS];
        int count = 0;
        int day = 0;

        void add(int witness, int question, int answer) {
            if (count < MOST_QUESTIONS) {
                who[count] = witness;
                asked[count] = question;
                said[count] = answer;
                days[count] = day;
                count++;
            }
        }

        int putToday() {
            int many = 0;
            for (int k = 0; k < count; k++) {
                if (days[k] == day) {
                    many++;
                }
            }
            return many;
        }

        void copyFrom(Minutes other) {
            System.arraycopy(other.who, 0, who, 0, MOST_QUESTIONS);
            System.arraycopy(other.asked, 0, asked, 0, MOST_QUESTIONS);
            System.arraycopy(other.said, 0, said, 0, MOST_QUESTIONS);
            System.arraycopy(other.days, 0, days, 0, MOST_QUESTIONS);
            count = other.count;
            day = other.day;
        }
    }

    /** A case with what was heard in it, and what that leaves. */
    private static final class Hearing {
        final Minutes minutes = new Minutes();
        /** For each possible world the kinds of all witnesses that fit, whether they may be so or not. */
        final int[] fit = new int[MOST_WORLDS];
        /** The worlds that are left, in order. */
        final int[] alive = new int[MOST_WORLDS];
        private final int[] behindAnswer = new int[MOST_SAYINGS];
        Case file;
        int living = 0;
        int put = 0;

        Hearing(Case first) {
            file = first;
            rebuild();
        }

        void begin(Case anew) {
            file = anew;
            minutes.count = 0;
            minutes.day = 0;
            rebuild();
        }

        void resume(Case old, Minutes kept) {
            file = old;
            minutes.copyFrom(kept);
            rebuild();
        }

        void enter(int witness, int question, int answer) {
            minutes.add(witness, question, answer);
            narrow(minutes.count - 1);
        }

        void strike() {
            minutes.count--;
            rebuild();
        }

        private void rebuild() {
            living = 0;
            put = 0;
            for (int w = 0; w < file.worlds; w++) {
                fit[w] = ALL_KINDS;
                if (file.canBe(w)) {
                    alive[living] = w;
                    living++;
                }
            }
            for (int k = 0; k < minutes.count; k++) {
                narrow(k);
            }
        }

        private void narrow(int k) {
            put |= 1 << minutes.asked[k];
            for (int w = 0; w < file.worlds; w++) {
                if (file.canBe(w)) {
                    fit[w] &= agreeing(k, w);
                }
            }
            int stay = 0;
            for (int i = 0; i < living; i++) {
                if (kindsLeft(minutes.who[k], alive[i]) != 0) {
                    alive[stay] = alive[i];
                    stay++;
                }
            }
            living = stay;
        }

        /** The kinds with which the k-th answer agrees in a world: all of those who did not give it. */
        int agreeing(int k, int world) {
            int shift = minutes.who[k] * KINDS;
            int packed = file.packedAnswers(minutes.who[k], minutes.asked[k], world);
            int kinds = Case.kindsAnswering(packed, minutes.said[k]);
            return ALL_KINDS & ~(KINDS_OF_ONE << shift) | kinds << shift;
        }

        /** The kinds that a witness may be and that fit a world. */
        int kindsLeft(int witness, int world) {
            return (fit[world] & file.may) >> witness * KINDS & KINDS_OF_ONE;
        }

        boolean lives(int world) {
            for (int i = 0; i < living; i++) {
                if (alive[i] == world) {
                    return true;
                }
            }
            return false;
        }

        boolean wasPut(int question) {
            return (put >> question & 1) != 0;
        }

        /** 1 or 0 for a question that is sure, NONE for one that is open. */
        int certainty(int question) {
            int inside = 0;
            for (int i = 0; i < living; i++) {
                inside += file.inQuestion(question, alive[i]);
            }
            if (living == 0 || inside != 0 && inside != living) {
                return NONE;
            }
            return inside == 0 ? 0 : 1;
        }

        long weightOfAll() {
            return weightWith(NONE, NONE);
        }

        long weightIn(int question) {
            long sum = 0;
            for (int i = 0; i < living; i++) {
                if (file.inQuestion(question, alive[i]) == 1) {
                    sum += weightOf(alive[i], NONE, NONE);
                }
            }
            return sum;
        }

        /** The weight of all that is left, a witness being of one kind alone. */
        long weightWith(int witness, int kind) {
            long sum = 0;
            for (int i = 0; i < living; i++) {
                sum += weightOf(alive[i], witness, kind);
            }
            return sum;
        }

        private long weightOf(int world, int witness, int kind) {
            long product = file.weight[world];
            for (int v = 0; v < file.witnesses; v++) {
                int kinds = kindsLeft(v, world);
                int together = 0;
                for (int k = 0; k < KINDS; k++) {
                    if ((kinds >> k & 1) != 0 && (v != witness || k == kind)) {
                        together += file.sixteenths[v * KINDS + k];
                    }
                }
                product *= together;
            }
            return product;
        }

        int takenAwayBy(int k) {
            int away = 0;
            for (int w = 0; w < file.worlds; w++) {
                int shift = minutes.who[k] * KINDS;
                if (file.canBe(w) && (agreeing(k, w) & file.may & KINDS_OF_ONE << shift) == 0) {
                    away++;
                }
            }
            return away;
        }

        int costs() {
            int sum = 0;
            for (int k = 0; k < minutes.count; k++) {
                int times = (minutes.said[k] & 1) + 1;
                sum += file.fee[minutes.asked[k]] + times * file.fee[minutes.said[k] >> 1];
            }
            return sum;
        }

        int mostLeftBehind(int witness, int question) {
            Arrays.fill(behindAnswer, 0);
            for (int i = 0; i < living; i++) {
                int kinds = kindsLeft(witness, alive[i]);
                int packed = file.packedAnswers(witness, question, alive[i]);
                int counted = 0;
                for (int k = 0; k < KINDS; k++) {
                    int a = packed & ANSWER_MASK;
                    if ((kinds >> k & 1 & ~(counted >> a)) != 0) {
                        counted |= 1 << a;
                        behindAnswer[a]++;
                    }
                    packed >>= ANSWER_BITS;
                }
            }
            int most = 0;
            for (int a = 0; a < MOST_SAYINGS; a++) {
                most = Math.max(most, behindAnswer[a]);
            }
            return most;
        }

        /** NONE if none is left or all were put. */
        int bestFor(int witness) {
            int question = NONE;
            int least = MOST_WORLDS + 1;
            for (int q = 0; q < file.questions && living > 0; q++) {
                if (!wasPut(q)) {
                    int most = mostLeftBehind(witness, q);
                    if (most < least) {
                        least = most;
                        question = q;
                    }
                }
            }
            return question;
        }

        int leftIfHonest() {
            int many = 0;
            for (int w = 0; w < file.worlds; w++) {
                if (file.canBe(w) && (fit[w] & ALL_HONEST) == ALL_HONEST) {
                    many++;
                }
            }
            return many;
        }

        /** The first answer with which no world is left, if all are honest; NONE if some are to the end. */
        int firstClash() {
            if (minutes.count == 0) {
                return NONE;
            }
            int clash = 0;
            for (int w = 0; w < file.worlds; w++) {
                if (file.canBe(w)) {
                    int doubt = firstDoubt(w);
                    if (doubt == NONE) {
                        return NONE;
                    }
                    clash = Math.max(clash, doubt);
                }
            }
            return clash;
        }

        private int firstDoubt(int world) {
            for (int k = 0; k < minutes.count; k++) {
                if ((agreeing(k, world) & ALL_HONEST) != ALL_HONEST) {
                    return k;
                }
            }
            return NONE;
        }

        /** The witnesses for whom honest fits no world that is left. */
        int neverHonest() {
            int somewhere = 0;
            for (int i = 0; i < living; i++) {
                somewhere |= fit[alive[i]];
            }
            int set = 0;
            for (int v = 0; v < file.witnesses; v++) {
                if ((somewhere >> v * KINDS & 1) == 0) {
                    set |= 1 << v;
                }
            }
            return set;
        }
    }

    /** Looks ahead for the fewest questions, and back for the fewest answers, that make a thing sure. */
    private static final class Search {
        private final Hearing hearing;
        /** Worlds left at each level, one level a question put, with the kinds that fit and may be. */
        private final int[] worlds = new int[SHORTEST_TO_ONE * MOST_WORLDS];
        private final int[] kinds = new int[SHORTEST_TO_ONE * MOST_WORLDS];
        private final int[] sizes = new int[SHORTEST_TO_ONE];
        /** For each world against what is sure: the kinds with which each answer agrees. */
        private final int[] agreeing = new int[MOST_WORLDS * MOST_QUESTIONS];
        private int against = 0;
        private int lastStanding = 0;
        private int target = 0;
        private int onlyWitness = NONE;

        Search(Hearing present) {
            hearing = present;
        }

        void begin(int question, int witness) {
            target = question;
            onlyWitness = witness;
            sizes[0] = hearing.living;
            for (int i = 0; i < hearing.living; i++) {
                worlds[i] = hearing.alive[i];
                kinds[i] = hearing.fit[hearing.alive[i]] & hearing.file.may;
            }
        }

        /** The first witness and question with which so many are enough, as one number; or NONE. */
        private int firstOf(int level, int many, int put) {
            Case file = hearing.file;
            for (int v = 0; v < file.witnesses; v++) {
                if (onlyWitness != NONE && v != onlyWitness) {
                    continue;
                }
                for (int q = 0; q < file.questions; q++) {
                    if ((put >> q & 1) == 0 && settles(level, v, q, many, put)) {
                        return v * MOST_QUESTIONS + q;
                    }
                }
            }
            return NONE;
        }

        private boolean settles(int level, int witness, int question, int many, int put) {
            int open = openBehind(level, witness, question, many == 1);
            if (open == 0) {
                return true;
            }
            if (many == 1 || level + 1 >= SHORTEST_TO_ONE) {
                return false;
            }
            for (int a = 0; a < MOST_SAYINGS && open >> a != 0; a++) {
                if ((open >> a & 1) != 0) {
                    descend(level, witness, question, a);
                    if (firstOf(level + 1, many - 1, put | 1 << question) == NONE) {
                        return false;
                    }
                }
            }
            return true;
        }

        /** The answers behind which the target is open; if asked for any, perhaps not all of them. */
        private int openBehind(int level, int witness, int question, boolean any) {
            Case file = hearing.file;
            int start = level * MOST_WORLDS;
            int behindYes = 0;
            int behindNo = 0;
            for (int i = start; i < start + sizes[level] && !(any && (behindYes & behindNo) != 0); i++) {
                int own = kinds[i] >> witness * KINDS & KINDS_OF_ONE;
                int answers = Case.answersOf(file.packedAnswers(witness, question, worlds[i]), own);
                if (file.inQuestion(target, worlds[i]) == 1) {
                    behindYes |= answers;
                } else {
                    behindNo |= answers;
                }
            }
            return behindYes & behindNo;
        }

        /** Makes the next level what is left behind an answer. */
        private void descend(int level, int witness, int question, int answer) {
            int start = level * MOST_WORLDS;
            int next = start + MOST_WORLDS;
            int shift = witness * KINDS;
            int stay = 0;
            for (int i = start; i < start + sizes[level]; i++) {
                int own = kinds[i] >> shift & KINDS_OF_ONE;
                int packed = hearing.file.packedAnswers(witness, question, worlds[i]);
                int such = own & Case.kindsAnswering(packed, answer);
                if (such != 0) {
                    worlds[next + stay] = worlds[i];
                    kinds[next + stay] = kinds[i] & ~(KINDS_OF_ONE << shift) | such << shift;
                    stay++;
                }
            }
            sizes[level + 1] = stay;
        }

        /** Of the smallest sets of answers by which a question is sure so, the least as a number. */
        int leastProof(int question, int certain) {
            gatherAgainst(question, certain);
            int heard = hearing.minutes.count;
            int whole = (1 << heard) - 1;
            for (int size = 0; size < heard; size++) {
                for (int set = 0; set < whole; set++) {
                    if (Integer.bitCount(set) == size && isProof(set)) {
                        return set;
                    }
                }
            }
            return whole;
        }

        private void gatherAgainst(int question, int certain) {
            Case file = hearing.file;
            against = 0;
            lastStanding = 0;
            for (int w = 0; w < file.worlds; w++) {
                if (file.canBe(w) && file.inQuestion(question, w) != certain) {
                    for (int k = 0; k < hearing.minutes.count; k++) {
                        agreeing[against * MOST_QUESTIONS + k] = hearing.agreeing(k, w);
                    }
                    against++;
                }
            }
        }

        /** What stood against the last set most likely stands against this one too. */
        private boolean isProof(int set) {
            if (against > 0 && standsAgainst(lastStanding, set)) {
                return false;
            }
            for (int i = 0; i < against; i++) {
                if (standsAgainst(i, set)) {
                    lastStanding = i;
                    return false;
                }
            }
            return true;
        }

        private boolean standsAgainst(int one, int set) {
            int left = hearing.file.may;
            for (int k = 0; set >> k != 0 && k < MOST_QUESTIONS; k++) {
                if ((set >> k & 1) != 0) {
                    left &= agreeing[one * MOST_QUESTIONS + k];
                }
            }
            for (int v = 0; v < MOST_WITNESSES; v++) {
                if ((left >> v * KINDS & KINDS_OF_ONE) == 0) {
                    return false;
                }
            }
            return true;
        }
    }

    /** A judge's plan: its steps in order; a when knows the step behind its end. */
    private static final class Plan {
        /** ASK, BEST, NEXT, RULE, or the test of a when: SURE, YES, NO, LEFT. */
        final int[] what = new int[MOST_STEPS];
        final int[] first = new int[MOST_STEPS];
        final int[] second = new int[MOST_STEPS];
        final int[] behindEnd = new int[MOST_STEPS];
        private final int[] opened = new int[MOST_WHENS];
        private int open = 0;
        int steps = 0;
        boolean there = false;

        boolean readSteps(Lexer lexer, Names names) {
            steps = 0;
            open = 0;
            there = true;
            for (int i = 0; i < MOST_TOKENS && lexer.token != TEXT_END; i++) {
                if (!(lexer.token == END ? readEnd(lexer) : readStep(lexer, names))) {
                    return false;
                }
            }
            return open == 0 || lexer.refuseHere(FAULT_CANT_STAND);
        }

        private boolean readEnd(Lexer lexer) {
            if (open == 0) {
                return lexer.refuseHere(FAULT_CANT_STAND);
            }
            open--;
            behindEnd[opened[open]] = steps;
            lexer.advance();
            return lexer.take(SEMICOLON);
        }

        private boolean readStep(Lexer lexer, Names names) {
            int word = lexer.token;
            if (word < ASK || word > WHEN) {
                return lexer.refuseHere(FAULT_CANT_STAND);
            }
            if (steps >= MOST_STEPS) {
                return lexer.refuseHere(FAULT_TOO_MANY);
            }
            if (word == WHEN && open >= MOST_WHENS) {
                return lexer.refuseHere(FAULT_ORDER);
            }
            lexer.advance();
            what[steps] = word;
            if (!(word == WHEN ? readTest(lexer, names) : readNames(lexer, names))) {
                return false;
            }
            steps++;
            return lexer.take(SEMICOLON);
        }

        private boolean readNames(Lexer lexer, Names names) {
            int word = what[steps];
            if (word == ASK || word == BEST) {
                first[steps] = lexer.takeName(names, A_WITNESS);
            } else if (word == RULE) {
                first[steps] = lexer.takeName(names, A_QUESTION);
            }
            if (word == ASK && lexer.fault == 0) {
                second[steps] = lexer.takeName(names, A_QUESTION);
            }
            return lexer.fault == 0;
        }

        private boolean readTest(Lexer lexer, Names names) {
            int test = lexer.token;
            if (test < SURE || test > LEFT) {
                return lexer.refuseHere(FAULT_CANT_STAND);
            }
            what[steps] = test;
            opened[open] = steps;
            open++;
            lexer.advance();
            first[steps] = test == LEFT
                    ? lexer.takeNumber(0, MOST_WORLDS) : lexer.takeName(names, A_QUESTION);
            return lexer.fault == 0;
        }

        void copyFrom(Plan other) {
            System.arraycopy(other.what, 0, what, 0, MOST_STEPS);
            System.arraycopy(other.first, 0, first, 0, MOST_STEPS);
            System.arraycopy(other.second, 0, second, 0, MOST_STEPS);
            System.arraycopy(other.behindEnd, 0, behindEnd, 0, MOST_STEPS);
            steps = other.steps;
            there = other.there;
        }
    }

    /** A plan at work in a case that is drawn. */
    private static final class Sitting {
        final Hearing hearing;
        private final int[] kinds = new int[MOST_WITNESSES];
        int trueWorld = 0;
        private int drawn = 0;

        Sitting(Case first) {
            hearing = new Hearing(first);
        }

        /** RIGHT, WRONG or NO_VERDICT. */
        int holdCourt(Case file, Plan plan, int seed) {
            hearing.begin(file);
            drawTruth(file, seed);
            int from = 0;
            for (int step = 0; step < plan.steps; step++) {
                if (step < from) {
                    continue;
                }
                int first = plan.first[step];
                switch (plan.what[step]) {
                    case ASK:
                        put(first, plan.second[step]);
                        break;
                    case BEST:
                        put(first, hearing.bestFor(first));
                        break;
                    case NEXT:
                        hearing.minutes.day++;
                        break;
                    case RULE:
                        return judge(first);
                    default:
                        from = passes(plan.what[step], first) ? from : plan.behindEnd[step];
                        break;
                }
            }
            return NO_VERDICT;
        }

        private void drawTruth(Case file, int seed) {
            drawn = seed;
            int sum = 0;
            for (int w = 0; w < file.worlds; w++) {
                sum += file.weight[w];
            }
            trueWorld = firstAbove(file.weight, 0, file.worlds, draw(sum));
            for (int v = 0; v < file.witnesses; v++) {
                kinds[v] = firstAbove(file.sixteenths, v * KINDS, KINDS, draw(SIXTEENTHS));
            }
        }

        private int draw(int by) {
            drawn = (drawn * 2417 + 10613) % 65536;
            return by > 0 ? drawn / 8 % by : 0;
        }

        /** The first of so many in a row with which their sum is above a number. */
        private static int firstAbove(int[] row, int start, int many, int number) {
            int sum = 0;
            for (int i = 0; i < many; i++) {
                sum += row[start + i];
                if (sum > number) {
                    return i;
                }
            }
            return 0;
        }

        private void put(int witness, int question) {
            if (question == NONE || hearing.wasPut(question)
                    || hearing.minutes.putToday() >= MOST_PUT_ON_A_DAY) {
                return;
            }
            int packed = hearing.file.packedAnswers(witness, question, trueWorld);
            hearing.enter(witness, question, Case.answerOf(packed, kinds[witness]));
        }

        private boolean passes(int test, int operand) {
            switch (test) {
                case SURE:
                    return hearing.certainty(operand) != NONE;
                case YES:
                    return hearing.certainty(operand) == 1;
                case NO:
                    return hearing.certainty(operand) == 0;
                default:
                    return hearing.living <= operand;
            }
        }

        private int judge(int question) {
            int verdict = hearing.certainty(question);
            if (verdict == NONE) {
                verdict = 2 * hearing.weightIn(question) >= hearing.weightOfAll() ? 1 : 0;
            }
            return verdict == hearing.file.inQuestion(question, trueWorld) ? RIGHT : WRONG;
        }

        /** The set of witnesses that were drawn otherwise than honest. */
        int dishonest() {
            int set = 0;
            for (int v = 0; v < hearing.file.witnesses; v++) {
                if (kinds[v] != 0) {
                    set |= 1 << v;
                }
            }
            return set;
        }
    }

    /** What a mark keeps. */
    private static final class Mark {
        final Plan plan = new Plan();
        final Minutes minutes = new Minutes();
        Case file;

        Mark(Case first) {
            file = first;
        }

        void keep(Case present, Plan presentPlan, Minutes presentMinutes) {
            file = present;
            plan.copyFrom(presentPlan);
            minutes.copyFrom(presentMinutes);
        }
    }
}
