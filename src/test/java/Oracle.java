import java.util.ArrayList;
import java.util.Arrays;
import java.util.HashMap;
import java.util.HashSet;
import java.util.List;
import java.util.Map;
import java.util.Set;
import java.util.function.Predicate;

/**
 * The document once more, word by word and as slowly as it pleases, to hold the class against. It
 * has the same face, and shares no code and no shortcut with the class.
 */
public final class Oracle {
    private static final int NONE = -1;
    private static final Set<String> WORDS = Set.of("fact", "has", "never", "question", "fee", "asks",
            "witness", "knows", "may", "hides", "or", "and", "not", "honest", "turns", "other", "silent",
            "ask", "best", "next", "rule", "when", "sure", "yes", "no", "left", "end");
    private static final List<String> KINDS = List.of("honest", "turns", "other", "silent");

    private record Token(String text, int place) {
        boolean isWord() {
            return !text.isEmpty() && text.charAt(0) >= 'a' && text.charAt(0) <= 'z';
        }

        boolean isName() {
            return isWord() && text.length() <= 8 && !WORDS.contains(text);
        }

        boolean isNumber() {
            return !text.isEmpty() && text.charAt(0) >= '0' && text.charAt(0) <= '9';
        }

        boolean is(String other) {
            return text.equals(other);
        }
    }

    private static final class Fault extends RuntimeException {
        private static final long serialVersionUID = 1L;
        final int kind;
        final int place;

        Fault(int kind, int place) {
            super(null, null, false, false);
            this.kind = kind;
            this.place = place;
        }
    }

    private static final class Witness {
        final Set<Integer> knows = new HashSet<>();
        final int[] may = new int[4];
        final Set<Integer> hides = new HashSet<>();
    }

    private static final class Model {
        final Map<String, String> names = new HashMap<>();
        final List<List<Integer>> facts = new ArrayList<>();
        final List<Integer> factOf = new ArrayList<>();
        final List<Integer> weights = new ArrayList<>();
        final List<int[]> nevers = new ArrayList<>();
        final List<Integer> fees = new ArrayList<>();
        final List<Predicate<List<Integer>>> asks = new ArrayList<>();
        final List<Witness> witnesses = new ArrayList<>();
        List<List<Integer>> worlds = new ArrayList<>();
        final List<Integer> possible = new ArrayList<>();
        final List<Set<Integer>> holds = new ArrayList<>();
        final Map<List<Integer>, Integer> answers = new HashMap<>();

        void finish() {
            worlds = new ArrayList<>(List.of(List.of()));
            for (List<Integer> fact : facts) {
                List<List<Integer>> longer = new ArrayList<>();
                for (List<Integer> world : worlds) {
                    for (int value : fact) {
                        List<Integer> more = new ArrayList<>(world);
                        more.add(value);
                        longer.add(more);
                    }
                }
                worlds = longer;
            }
            for (int w = 0; w < worlds.size(); w++) {
                boolean can = true;
                for (int[] never : nevers) {
                    can &= !(worlds.get(w).contains(never[0]) && worlds.get(w).contains(never[1]));
                }
                if (can) {
                    possible.add(w);
                }
            }
            for (Predicate<List<Integer>> ask : asks) {
                Set<Integer> set = new HashSet<>();
                for (int w : possible) {
                    if (ask.test(worlds.get(w))) {
                        set.add(w);
                    }
                }
                holds.add(set);
            }
        }

        Set<Integer> meaning(int saying) {
            Set<Integer> set = new HashSet<>(holds.get(saying / 2));
            if (saying % 2 == 1) {
                set = new HashSet<>(possible);
                set.removeAll(holds.get(saying / 2));
            }
            return set;
        }

        Set<Integer> known(int witness, int world) {
            Set<Integer> set = new HashSet<>();
            for (int w : possible) {
                boolean same = true;
                for (int f : witnesses.get(witness).knows) {
                    same &= worlds.get(w).get(f).equals(worlds.get(world).get(f));
                }
                if (same) {
                    set.add(w);
                }
            }
            return set;
        }

        int answer(int witness, int question, int world, int kind) {
            return answers.computeIfAbsent(List.of(witness, question, world, kind),
                    key -> answerAnew(witness, question, world, kind));
        }

        private int answerAnew(int witness, int question, int world, int kind) {
            int echo = 2 * question;
            if (kind == 3) {
                return echo;
            }
            Set<Integer> k = known(witness, world);
            if (kind == 2 || witnesses.get(witness).hides.contains(question)) {
                return other(question, k);
            }
            int honest = honest(question, k);
            if (kind == 0 || honest == echo) {
                return honest;
            }
            return honest % 2 == 0 ? honest + 1 : honest - 1;
        }

        private int honest(int question, Set<Integer> k) {
            Set<Integer> q = holds.get(question);
            boolean within = q.containsAll(k);
            Set<Integer> common = new HashSet<>(k);
            common.retainAll(q);
            for (int saying = 0; saying < 2 * holds.size(); saying++) {
                Set<Integer> m = meaning(saying);
                if (within && saying != 2 * question && m.containsAll(k) && q.containsAll(m)) {
                    return saying;
                }
                Set<Integer> both = new HashSet<>(m);
                both.retainAll(q);
                if (common.isEmpty() && m.containsAll(k) && both.isEmpty()) {
                    return saying;
                }
            }
            return 2 * question;
        }

        private int other(int question, Set<Integer> k) {
            Set<Integer> q = holds.get(question);
            for (int saying = 0; saying < 2 * holds.size(); saying++) {
                Set<Integer> m = meaning(saying);
                Set<Integer> in = new HashSet<>(m);
                in.retainAll(q);
                Set<Integer> out = new HashSet<>(m);
                out.removeAll(q);
                if (saying / 2 != question && m.containsAll(k) && m.size() != possible.size()
                        && !in.isEmpty() && !out.isEmpty()) {
                    return saying;
                }
            }
            return 2 * question;
        }

        int product(int world) {
            int product = 1;
            for (int value : worlds.get(world)) {
                product *= weights.get(value);
            }
            return product;
        }
    }

    private record Step(String what, int a, int b, List<Step> inner) {
    }

    private record State(Model model, List<int[]> heard, int day, List<Step> plan) {
    }

    /** A text's tokens, looked at one by one. */
    private static final class Tokens {
        private final List<Token> list = new ArrayList<>();
        private int at = 0;

        Tokens(String text) {
            int i = 0;
            boolean good = true;
            while (i < text.length() && good) {
                char c = text.charAt(i);
                int start = i;
                if (c == ' ' || c == '\n') {
                    i++;
                    continue;
                }
                if (c >= 'a' && c <= 'z') {
                    while (i < text.length() && text.charAt(i) >= 'a' && text.charAt(i) <= 'z') {
                        i++;
                    }
                } else if (c >= '0' && c <= '9') {
                    while (i < text.length() && text.charAt(i) >= '0' && text.charAt(i) <= '9') {
                        i++;
                    }
                    good = i - start <= 4;
                } else {
                    i++;
                    good = c == ';' || c == '(' || c == ')';
                }
                list.add(good ? new Token(text.substring(start, i), start) : new Token("!", start));
            }
            if (good) {
                list.add(new Token("", text.length()));
            }
        }

        Token look() {
            Token token = list.get(at);
            if (token.is("!")) {
                throw new Fault(1, token.place);
            }
            return token;
        }

        Token next() {
            Token token = look();
            at++;
            return token;
        }

        boolean sees(String text) {
            return look().is(text);
        }

        void expect(String text) {
            need(sees(text), 2);
            at++;
        }

        void need(boolean good, int kind) {
            Token token = look();
            if (!good) {
                throw new Fault(kind, token.place);
            }
        }

        int number(int least, int most) {
            need(look().isNumber(), 2);
            int number = Integer.parseInt(look().text);
            need(number >= least && number <= most, 4);
            at++;
            return number;
        }

        int named(Model model, char sort) {
            need(look().isName(), 2);
            String thing = model.names.get(look().text);
            need(thing != null && thing.charAt(0) == sort, 3);
            return Integer.parseInt(thing.substring(1));
        }

        void newName(Model model) {
            need(look().isName(), 2);
            need(!model.names.containsKey(look().text), 3);
        }
    }

    private static Model parseCase(String text) {
        Tokens tokens = new Tokens(text);
        Model model = new Model();
        while (!tokens.sees("")) {
            String word = tokens.look().text;
            tokens.need(List.of("fact", "never", "question", "witness").contains(word), 2);
            tokens.need(!(word.equals("fact") && model.facts.size() == 4), 6);
            tokens.need(!(word.equals("question") && model.asks.size() == 12), 6);
            tokens.need(!(word.equals("witness") && model.witnesses.size() == 4), 6);
            tokens.need(!(List.of("fact", "never").contains(word) && !model.asks.isEmpty()), 7);
            tokens.next();
            switch (word) {
                case "fact" -> parseFact(tokens, model);
                case "never" -> parseNever(tokens, model);
                case "question" -> parseQuestion(tokens, model);
                default -> parseWitness(tokens, model);
            }
            tokens.expect(";");
        }
        model.finish();
        return model;
    }

    private static void parseFact(Tokens tokens, Model model) {
        tokens.newName(model);
        model.names.put(tokens.next().text, "f" + model.facts.size());
        tokens.expect("has");
        List<Integer> fact = new ArrayList<>();
        do {
            tokens.newName(model);
            tokens.need(fact.size() < 6, 6);
            int value = model.factOf.size();
            fact.add(value);
            model.factOf.add(model.facts.size());
            model.names.put(tokens.next().text, "v" + value);
            model.weights.add(tokens.look().isNumber() ? tokens.number(1, 9) : 1);
        } while (tokens.look().isName());
        tokens.need(tokens.sees(";"), 2);
        model.facts.add(fact);
        int worlds = 1;
        for (List<Integer> one : model.facts) {
            worlds *= one.size();
        }
        tokens.need(fact.size() > 1 && worlds <= 256, 8);
    }

    private static void parseNever(Tokens tokens, Model model) {
        int one = tokens.named(model, 'v');
        tokens.next();
        int two = tokens.named(model, 'v');
        tokens.need(!model.factOf.get(one).equals(model.factOf.get(two)), 5);
        tokens.next();
        model.nevers.add(new int[] {one, two});
    }

    private static void parseQuestion(Tokens tokens, Model model) {
        tokens.newName(model);
        model.names.put(tokens.next().text, "q" + model.asks.size());
        tokens.expect("fee");
        model.fees.add(tokens.number(0, 99));
        tokens.expect("asks");
        model.asks.add(parseEither(tokens, model, 0));
    }

    private static Predicate<List<Integer>> parseEither(Tokens tokens, Model model, int within) {
        Predicate<List<Integer>> whole = parseBoth(tokens, model, within);
        while (tokens.sees("or")) {
            tokens.next();
            whole = whole.or(parseBoth(tokens, model, within));
        }
        return whole;
    }

    private static Predicate<List<Integer>> parseBoth(Tokens tokens, Model model, int within) {
        Predicate<List<Integer>> whole = parseOne(tokens, model, within);
        while (tokens.sees("and")) {
            tokens.next();
            whole = whole.and(parseOne(tokens, model, within));
        }
        return whole;
    }

    private static Predicate<List<Integer>> parseOne(Tokens tokens, Model model, int within) {
        if (tokens.sees("not") || tokens.sees("(")) {
            tokens.need(within < 6, 7);
            if (tokens.next().is("not")) {
                return parseOne(tokens, model, within + 1).negate();
            }
            Predicate<List<Integer>> inner = parseEither(tokens, model, within + 1);
            tokens.expect(")");
            return inner;
        }
        int value = tokens.named(model, 'v');
        tokens.next();
        return world -> world.contains(value);
    }

    private static void parseWitness(Tokens tokens, Model model) {
        tokens.newName(model);
        model.names.put(tokens.next().text, "w" + model.witnesses.size());
        Witness witness = new Witness();
        if (tokens.sees("knows")) {
            tokens.next();
            do {
                int fact = tokens.named(model, 'f');
                tokens.need(witness.knows.add(fact), 5);
                tokens.next();
            } while (tokens.look().isName());
        }
        tokens.expect("may");
        do {
            int kind = KINDS.indexOf(tokens.look().text);
            tokens.need(kind >= 0, 2);
            tokens.need(witness.may[kind] == 0, 5);
            tokens.next();
            witness.may[kind] = tokens.number(1, 16);
        } while (KINDS.contains(tokens.look().text));
        tokens.need(tokens.sees("hides") || tokens.sees(";"), 2);
        tokens.need(Arrays.stream(witness.may).sum() == 16, 8);
        if (tokens.sees("hides")) {
            tokens.next();
            do {
                int question = tokens.named(model, 'q');
                tokens.need(witness.hides.add(question), 5);
                tokens.next();
            } while (tokens.look().isName());
        }
        model.witnesses.add(witness);
    }

    private static List<Step> parseSteps(Tokens tokens, Model model, int within, int[] count) {
        List<Step> steps = new ArrayList<>();
        while (!tokens.sees("") && !(within > 0 && tokens.sees("end"))) {
            String word = tokens.look().text;
            tokens.need(List.of("ask", "best", "next", "rule", "when").contains(word), 2);
            tokens.need(count[0] < 30, 6);
            tokens.need(!(word.equals("when") && within == 3), 7);
            count[0]++;
            tokens.next();
            int a = 0;
            int b = 0;
            List<Step> inner = List.of();
            if (word.equals("ask") || word.equals("best")) {
                a = tokens.named(model, 'w');
                tokens.next();
            }
            if (word.equals("ask") || word.equals("rule")) {
                b = tokens.named(model, 'q');
                tokens.next();
            }
            if (word.equals("when")) {
                word = tokens.look().text;
                tokens.need(List.of("sure", "yes", "no", "left").contains(word), 2);
                tokens.next();
                if (word.equals("left")) {
                    a = tokens.number(0, 256);
                } else {
                    b = tokens.named(model, 'q');
                    tokens.next();
                }
                tokens.expect(";");
                inner = parseSteps(tokens, model, within + 1, count);
                tokens.expect("end");
            }
            tokens.expect(";");
            steps.add(new Step(word, a, b, inner));
        }
        return steps;
    }

    private int status = 0;
    private long top = 0;
    private long bottom = 1;
    private final long[][] trays = new long[4][];
    private final int[] sorts = new int[4];
    private StringBuilder tape = new StringBuilder();
    private int faultKind = NONE;
    private int faultPlace = NONE;
    private Model model = new Model();
    private List<int[]> heard = new ArrayList<>();
    private int day = 0;
    private List<Step> plan = null;
    private int steps = 0;
    private final List<State> marks = new ArrayList<>();
    private int[] first = null;
    private int[] sat = null;

    public Oracle() {
        model.finish();
    }

    public int status() {
        return status;
    }

    public long top() {
        return top;
    }

    public long bottom() {
        return bottom;
    }

    private boolean in(int x, int least, int most) {
        return x >= least && x <= most;
    }

    private int ok(int x) {
        status = 0;
        return x;
    }

    private int no(int why) {
        status = why;
        return NONE;
    }

    private boolean okay(boolean good, int why) {
        status = good ? 0 : why;
        return good;
    }

    public boolean tray(int tray, int sort, int many) {
        if (!okay(in(tray, 0, 3) && in(sort, 0, 3) && in(many, 0, 60), 1)) {
            return false;
        }
        trays[tray] = new long[many];
        sorts[tray] = sort;
        return true;
    }

    public boolean write(int tray, int place, long v) {
        if (!okay(in(tray, 0, 3), 1) || !okay(trays[tray] != null, 2)
                || !okay(in(place, 0, trays[tray].length - 1), 3)) {
            return false;
        }
        int away = 64 - (8 << sorts[tray]);
        trays[tray][place] = v << away >> away;
        return true;
    }

    public long read(int tray, int place) {
        if (!okay(in(tray, 0, 3), 1) || !okay(trays[tray] != null, 2)
                || !okay(in(place, 0, trays[tray].length - 1), 3)) {
            return NONE;
        }
        return trays[tray][place];
    }

    public boolean pour(int from, int place, int to, int at, int many) {
        if (!okay(in(from, 0, 3) && in(to, 0, 3) && place >= 0 && at >= 0 && many >= 0, 1)
                || !okay(trays[from] != null && trays[to] != null, 2)
                || !okay(sorts[from] == sorts[to], 8)
                || !okay((long) place + many <= trays[from].length && (long) at + many <= trays[to].length, 3)) {
            return false;
        }
        long[] copy = Arrays.copyOfRange(trays[from], place, place + many);
        for (int i = 0; i < many; i++) {
            trays[to][at + i] = copy[i];
        }
        return true;
    }

    public int feed(int a, int b, int c, int d, int e) {
        if (tape.length() > 880) {
            return NONE;
        }
        for (int x : new int[] {a, b, c, d, e}) {
            tape.append((char) (x >>> 24)).append((char) (x >>> 16 & 255));
            tape.append((char) (x >>> 8 & 255)).append((char) (x & 255));
        }
        return tape.length();
    }

    public int court(int n) {
        if (!in(n, 0, tape.length())) {
            return no(1);
        }
        String text = tape.substring(0, n);
        tape = new StringBuilder();
        try {
            model = parseCase(text);
            heard = new ArrayList<>();
            day = 0;
            plan = null;
            noFault();
            return ok(model.possible.size());
        } catch (Fault fault) {
            return keep(fault);
        }
    }

    private void noFault() {
        faultKind = 0;
        faultPlace = NONE;
    }

    private int keep(Fault fault) {
        faultKind = fault.kind;
        faultPlace = fault.place;
        return no(9);
    }

    public int plan(int n) {
        if (!in(n, 0, Math.min(300, tape.length()))) {
            return no(1);
        }
        String text = tape.substring(0, n);
        tape = new StringBuilder();
        try {
            int[] count = {0};
            plan = parseSteps(new Tokens(text), model, 0, count);
            steps = count[0];
            noFault();
            return ok(steps);
        } catch (Fault fault) {
            return keep(fault);
        }
    }

    public int fault(int what) {
        return what == 0 ? faultKind : what == 1 ? faultPlace : NONE;
    }

    public int told(int what) {
        if (!in(what, 0, 7)) {
            return no(1);
        }
        return ok(List.of(model.facts.size(), model.factOf.size(), model.worlds.size(), model.asks.size(),
                model.witnesses.size(), day, heard.size(), today(heard, day)).get(what));
    }

    private static int today(List<int[]> answers, int which) {
        int many = 0;
        for (int[] one : answers) {
            many += one[3] == which ? 1 : 0;
        }
        return many;
    }

    public int value(int value, int what) {
        if (!isValue(value) || !in(what, 0, 1)) {
            return no(1);
        }
        return ok(what == 0 ? model.factOf.get(value) : model.weights.get(value));
    }

    private boolean isValue(int x) {
        return in(x, 0, model.factOf.size() - 1);
    }

    private boolean isWorld(int x) {
        return in(x, 0, model.worlds.size() - 1);
    }

    private boolean isQuestion(int x) {
        return in(x, 0, model.asks.size() - 1);
    }

    private boolean isWitness(int x) {
        return in(x, 0, model.witnesses.size() - 1);
    }

    public int world(int world, int fact) {
        if (!isWorld(world) || !in(fact, 0, model.facts.size() - 1)) {
            return no(1);
        }
        return ok(model.worlds.get(world).get(fact));
    }

    public int possible(int world) {
        return isWorld(world) ? ok(model.possible.contains(world) ? 1 : 0) : no(1);
    }

    public int holds(int question, int world) {
        if (!isQuestion(question) || !isWorld(world)) {
            return no(1);
        }
        return ok(model.holds.get(question).contains(world) ? 1 : 0);
    }

    public int fee(int question) {
        return isQuestion(question) ? ok(model.fees.get(question)) : no(1);
    }

    public int witness(int witness, int what) {
        if (!isWitness(witness) || !in(what, 0, 5)) {
            return no(1);
        }
        Witness one = model.witnesses.get(witness);
        if (what < 4) {
            return ok(one.may[what]);
        }
        int set = 0;
        for (int x : what == 4 ? one.knows : one.hides) {
            set += 1 << x;
        }
        return ok(set);
    }

    public int answer(int witness, int question, int world, int kind) {
        if (!isWitness(witness) || !isQuestion(question) || !isWorld(world) || !in(kind, 0, 3)) {
            return no(1);
        }
        return model.possible.contains(world) ? ok(model.answer(witness, question, world, kind)) : no(7);
    }

    public boolean hear(int witness, int question, int answer) {
        if (!okay(isWitness(witness) && isQuestion(question) && in(answer, 0, 2 * model.asks.size() - 1), 1)
                || !okay(today(heard, day) < 9, 4) || !okay(!wasPut(heard, question), 7)) {
            return false;
        }
        heard.add(new int[] {witness, question, answer, day});
        return true;
    }

    private static boolean wasPut(List<int[]> answers, int question) {
        for (int[] one : answers) {
            if (one[1] == question) {
                return true;
            }
        }
        return false;
    }

    public int unsay() {
        if (heard.isEmpty()) {
            return no(6);
        }
        heard.remove(heard.size() - 1);
        return ok(heard.size());
    }

    public int nextDay() {
        return day == 99 ? no(4) : ok(++day);
    }

    public int heard(int k, int what) {
        if (!in(what, 0, 3)) {
            return no(1);
        }
        return in(k, 0, heard.size() - 1) ? ok(heard.get(k)[what]) : no(6);
    }

    private boolean fitsAll(List<int[]> answers, int witness, int kind, int world) {
        for (int[] one : answers) {
            if (one[0] == witness && model.answer(witness, one[1], world, kind) != one[2]) {
                return false;
            }
        }
        return true;
    }

    private List<Integer> leftBy(List<int[]> answers) {
        List<Integer> left = new ArrayList<>();
        for (int w : model.possible) {
            boolean all = true;
            for (int v = 0; v < model.witnesses.size(); v++) {
                boolean some = false;
                for (int k = 0; k < 4; k++) {
                    some |= model.witnesses.get(v).may[k] > 0 && fitsAll(answers, v, k, w);
                }
                all &= some;
            }
            if (all) {
                left.add(w);
            }
        }
        return left;
    }

    private int sureBy(List<int[]> answers, int question) {
        List<Integer> left = leftBy(answers);
        if (left.isEmpty()) {
            return NONE;
        }
        if (model.holds.get(question).containsAll(left)) {
            return 1;
        }
        left.retainAll(model.holds.get(question));
        return left.isEmpty() ? 0 : NONE;
    }

    public int left() {
        return ok(leftBy(heard).size());
    }

    public int isLeft(int world) {
        return isWorld(world) ? ok(leftBy(heard).contains(world) ? 1 : 0) : no(1);
    }

    public int fits(int witness, int kind, int world) {
        if (!isWitness(witness) || !in(kind, 0, 3) || !isWorld(world)) {
            return no(1);
        }
        if (!model.possible.contains(world)) {
            return no(7);
        }
        return ok(model.witnesses.get(witness).may[kind] > 0 && fitsAll(heard, witness, kind, world) ? 1 : 0);
    }

    public int sure(int question) {
        if (!isQuestion(question)) {
            return no(1);
        }
        int sure = sureBy(heard, question);
        return sure == NONE ? no(6) : ok(sure);
    }

    private long weight(List<int[]> answers, int world, int witness, int kind) {
        long weight = model.product(world);
        for (int v = 0; v < model.witnesses.size(); v++) {
            int sum = 0;
            for (int k = 0; k < 4; k++) {
                if (fitsAll(answers, v, k, world) && (v != witness || k == kind)) {
                    sum += model.witnesses.get(v).may[k];
                }
            }
            weight *= sum;
        }
        return weight;
    }

    private long weightIn(List<int[]> answers, Set<Integer> worlds, int witness, int kind) {
        long sum = 0;
        for (int w : leftBy(answers)) {
            sum += worlds.contains(w) ? weight(answers, w, witness, kind) : 0;
        }
        return sum;
    }

    private void fraction(long over, long under) {
        long divisor = java.math.BigInteger.valueOf(over).gcd(java.math.BigInteger.valueOf(under)).longValue();
        top = over / divisor;
        bottom = under / divisor;
    }

    public boolean chance(int question) {
        if (!okay(isQuestion(question), 1) || !okay(!leftBy(heard).isEmpty(), 6)) {
            return false;
        }
        Set<Integer> all = new HashSet<>(model.possible);
        fraction(weightIn(heard, model.holds.get(question), NONE, NONE), weightIn(heard, all, NONE, NONE));
        return true;
    }

    public boolean trust(int witness, int kind) {
        if (!okay(isWitness(witness) && in(kind, 0, 3), 1) || !okay(!leftBy(heard).isEmpty(), 6)) {
            return false;
        }
        Set<Integer> all = new HashSet<>(model.possible);
        fraction(weightIn(heard, all, witness, kind), weightIn(heard, all, NONE, NONE));
        return true;
    }

    public int because(int question) {
        if (!isQuestion(question)) {
            return no(1);
        }
        int sure = sureBy(heard, question);
        if (sure == NONE) {
            return no(6);
        }
        int best = NONE;
        for (int set = 0; set < 1 << heard.size(); set++) {
            if (best != NONE && Integer.bitCount(set) >= Integer.bitCount(best)) {
                continue;
            }
            List<int[]> some = new ArrayList<>();
            for (int k = 0; k < heard.size(); k++) {
                if ((set >> k & 1) == 1) {
                    some.add(heard.get(k));
                }
            }
            if (sureBy(some, question) == sure) {
                best = set;
            }
        }
        return ok(best);
    }

    public int gave(int k) {
        if (!in(k, 0, heard.size() - 1)) {
            return no(6);
        }
        return ok(model.possible.size() - leftBy(List.of(heard.get(k))).size());
    }

    public int fees() {
        return ok(costs(heard));
    }

    private int costs(List<int[]> answers) {
        int sum = 0;
        for (int[] one : answers) {
            sum += model.fees.get(one[1]) + model.fees.get(one[2] / 2) * (one[2] % 2 == 1 ? 2 : 1);
        }
        return sum;
    }

    private static List<int[]> with(List<int[]> answers, int witness, int question, int answer) {
        List<int[]> more = new ArrayList<>(answers);
        more.add(new int[] {witness, question, answer, 0});
        return more;
    }

    private Set<Integer> mayCome(List<int[]> answers, int witness, int question) {
        Set<Integer> come = new HashSet<>();
        for (int w : leftBy(answers)) {
            for (int k = 0; k < 4; k++) {
                if (model.witnesses.get(witness).may[k] > 0 && fitsAll(answers, witness, k, w)) {
                    come.add(model.answer(witness, question, w, k));
                }
            }
        }
        return come;
    }

    private int worstOf(List<int[]> answers, int witness, int question) {
        int most = 0;
        for (int answer : mayCome(answers, witness, question)) {
            most = Math.max(most, leftBy(with(answers, witness, question, answer)).size());
        }
        return most;
    }

    public int worst(int witness, int question) {
        if (!isWitness(witness) || !isQuestion(question)) {
            return no(1);
        }
        if (leftBy(heard).isEmpty()) {
            return no(6);
        }
        return wasPut(heard, question) ? no(7) : ok(worstOf(heard, witness, question));
    }

    private int bestOf(List<int[]> answers, int witness) {
        int best = NONE;
        int least = Integer.MAX_VALUE;
        for (int q = 0; q < model.asks.size(); q++) {
            if (!wasPut(answers, q)) {
                int worst = worstOf(answers, witness, q);
                if (worst < least) {
                    least = worst;
                    best = q;
                }
            }
        }
        return best;
    }

    public int best(int witness) {
        if (!isWitness(witness)) {
            return no(1);
        }
        int best = bestOf(heard, witness);
        return leftBy(heard).isEmpty() || best == NONE ? no(6) : ok(best);
    }

    private boolean enough(List<int[]> answers, int question, int witness, int many) {
        return sureBy(answers, question) != NONE
                || many > 0 && firstEnough(answers, question, witness, many) != null;
    }

    private int[] firstEnough(List<int[]> answers, int question, int witness, int many) {
        for (int v = 0; v < model.witnesses.size(); v++) {
            for (int q = 0; q < model.asks.size(); q++) {
                if (witness != NONE && v != witness || wasPut(answers, q)) {
                    continue;
                }
                boolean all = true;
                for (int answer : mayCome(answers, v, q)) {
                    all = all && enough(with(answers, v, q, answer), question, witness, many - 1);
                }
                if (all) {
                    return new int[] {v, q};
                }
            }
        }
        return null;
    }

    public int shortest(int question, int witness) {
        if (!isQuestion(question) || witness != NONE && !isWitness(witness)) {
            return no(1);
        }
        if (leftBy(heard).isEmpty()) {
            return no(6);
        }
        for (int many = 0; many <= (witness == NONE ? 2 : 3); many++) {
            if (enough(heard, question, witness, many)) {
                first = many == 0 ? null : firstEnough(heard, question, witness, many);
                return ok(many);
            }
        }
        return no(6);
    }

    public int shortestFirst(int what) {
        if (!in(what, 0, 1)) {
            return no(1);
        }
        return first == null ? no(6) : ok(first[what]);
    }

    public int settled() {
        int many = 0;
        for (int q = 0; q < model.asks.size(); q++) {
            many += !wasPut(heard, q) && sureBy(heard, q) != NONE ? 1 : 0;
        }
        return ok(many);
    }

    private int honestLeft(List<int[]> answers) {
        int many = 0;
        for (int w : model.possible) {
            boolean all = true;
            for (int v = 0; v < model.witnesses.size(); v++) {
                all &= fitsAll(answers, v, 0, w);
            }
            many += all ? 1 : 0;
        }
        return many;
    }

    public int bench() {
        return ok(honestLeft(heard));
    }

    public int clash() {
        for (int k = 0; k < heard.size(); k++) {
            if (honestLeft(heard.subList(0, k + 1)) == 0) {
                return ok(k);
            }
        }
        return no(6);
    }

    public int liars() {
        List<Integer> left = leftBy(heard);
        if (left.isEmpty()) {
            return no(6);
        }
        int set = 0;
        for (int v = 0; v < model.witnesses.size(); v++) {
            boolean some = false;
            for (int w : left) {
                some |= fitsAll(heard, v, 0, w);
            }
            set += some ? 0 : 1 << v;
        }
        return ok(set);
    }

    /** What a sitting has come to. */
    private final class Sitting {
        final List<int[]> answers = new ArrayList<>();
        final int[] kinds = new int[4];
        int truth = NONE;
        int date = 0;
        int end = 2;
        boolean over = false;
        private int s;

        Sitting(int seed) {
            s = seed;
            int sum = 0;
            for (int w : model.possible) {
                sum += model.product(w);
            }
            int drawn = draw(sum);
            sum = 0;
            for (int w : model.possible) {
                sum += model.product(w);
                if (sum > drawn && truth == NONE) {
                    truth = w;
                }
            }
            for (int v = 0; v < model.witnesses.size(); v++) {
                drawn = draw(16);
                int k = 0;
                sum = model.witnesses.get(v).may[0];
                while (sum <= drawn) {
                    k++;
                    sum += model.witnesses.get(v).may[k];
                }
                kinds[v] = k;
            }
        }

        private int draw(int n) {
            s = Math.floorMod(s * 2417 + 10613, 65536);
            return s / 8 % n;
        }

        void put(int witness, int question) {
            if (question != NONE && !wasPut(answers, question) && today(answers, date) < 9) {
                int said = model.answer(witness, question, truth, kinds[witness]);
                answers.add(new int[] {witness, question, said, date});
            }
        }

        void run(List<Step> list) {
            for (Step step : list) {
                if (over) {
                    return;
                }
                switch (step.what) {
                    case "ask" -> put(step.a, step.b);
                    case "best" -> put(step.a, bestOf(answers, step.a));
                    case "next" -> date++;
                    case "rule" -> rule(step.b);
                    default -> {
                        int sure = step.what.equals("left") ? NONE : sureBy(answers, step.b);
                        boolean so = switch (step.what) {
                            case "sure" -> sure != NONE;
                            case "yes" -> sure == 1;
                            case "no" -> sure == 0;
                            default -> leftBy(answers).size() <= step.a;
                        };
                        if (so) {
                            run(step.inner);
                        }
                    }
                }
            }
        }

        private void rule(int question) {
            int sure = sureBy(answers, question);
            Set<Integer> all = new HashSet<>(model.possible);
            boolean yes = sure == 1 || sure == NONE
                    && 2 * weightIn(answers, model.holds.get(question), NONE, NONE)
                    >= weightIn(answers, all, NONE, NONE);
            end = yes == model.holds.get(question).contains(truth) ? 0 : 1;
            over = true;
        }
    }

    public int sit(int seed) {
        if (!in(seed, 0, 9999)) {
            return no(1);
        }
        if (plan == null || model.possible.isEmpty()) {
            return no(6);
        }
        Sitting sitting = new Sitting(seed);
        sitting.run(plan);
        int not = 0;
        for (int v = 0; v < 4; v++) {
            not += sitting.kinds[v] != 0 ? 1 << v : 0;
        }
        sat = new int[] {sitting.answers.size(), costs(sitting.answers), sitting.date, sitting.truth,
                leftBy(sitting.answers).size(), not};
        return ok(sitting.end);
    }

    public int sat(int what) {
        if (!in(what, 0, 5)) {
            return no(1);
        }
        return sat == null ? no(6) : ok(sat[what]);
    }

    public int tally(int seed, int many, int end) {
        if (!in(seed, 0, 9999) || !in(many, 1, 30) || seed + many > 10000 || !in(end, 0, 2)) {
            return no(1);
        }
        if (plan == null || model.possible.isEmpty()) {
            return no(6);
        }
        int such = 0;
        for (int i = 0; i < many; i++) {
            Sitting sitting = new Sitting(seed + i);
            sitting.run(plan);
            such += sitting.end == end ? 1 : 0;
        }
        return ok(such);
    }

    public int mark() {
        if (marks.size() == 3) {
            return no(4);
        }
        marks.add(new State(model, new ArrayList<>(heard), day, plan));
        return ok(marks.size());
    }

    public int back() {
        if (marks.isEmpty()) {
            return no(6);
        }
        State state = marks.remove(marks.size() - 1);
        model = state.model;
        heard = new ArrayList<>(state.heard);
        day = state.day;
        plan = state.plan;
        return ok(marks.size());
    }
}
