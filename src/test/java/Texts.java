import java.util.ArrayList;
import java.util.Arrays;
import java.util.List;
import java.util.Random;

/** Draws texts of cases and plans, some of them with faults. */
final class Texts {
    private static final List<String> WORDS = List.of("fact", "has", "never", "question", "fee", "asks",
            "witness", "knows", "may", "hides", "or", "and", "not", "honest", "turns", "other", "silent",
            "ask", "best", "next", "rule", "when", "sure", "yes", "no", "left", "end");
    private static final List<String> KINDS = List.of("honest", "turns", "other", "silent");

    private final Random random;
    /** Within how many others not and ( may stand, how many sixteenths a witness has. */
    private int nesting = 6;
    private int sixteenths = 16;
    private final List<String> facts = new ArrayList<>();
    private final List<List<String>> values = new ArrayList<>();
    private final List<String> questions = new ArrayList<>();
    private final List<String> witnesses = new ArrayList<>();
    private final List<String> names = new ArrayList<>();

    Texts(Random random) {
        this.random = random;
    }

    private <T> T one(List<T> list) {
        return list.get(random.nextInt(list.size()));
    }

    private boolean chance(int percent) {
        return random.nextInt(100) < percent;
    }

    private String newName() {
        while (true) {
            int length = chance(85) ? 1 + random.nextInt(2) : 1 + random.nextInt(8);
            StringBuilder name = new StringBuilder();
            for (int i = 0; i < length; i++) {
                name.append((char) ('a' + random.nextInt(26)));
            }
            String text = name.toString();
            if (!WORDS.contains(text) && !names.contains(text)) {
                names.add(text);
                return text;
            }
        }
    }

    private void forget() {
        facts.clear();
        values.clear();
        questions.clear();
        witnesses.clear();
        names.clear();
    }

    /** A case at the limits, which often goes one too far. */
    String wildCase() {
        forget();
        List<String> tokens = new ArrayList<>();
        for (int i = 3 + random.nextInt(3); i > 0; i--) {
            fact(tokens, chance(10) ? 1 : chance(15) ? 7 : chance(50) ? 2 : 2 + random.nextInt(5));
        }
        nesting = chance(30) ? 9 : 6;
        sixteenths = chance(10) ? 15 + random.nextInt(3) : 16;
        for (int i = chance(30) ? 13 : random.nextInt(4); i > 0; i--) {
            question(tokens);
        }
        if (chance(10)) {
            fact(tokens, 2);
        }
        if (chance(10)) {
            never(tokens);
        }
        for (int i = random.nextInt(6); i > 0; i--) {
            witness(tokens);
        }
        nesting = 6;
        sixteenths = 16;
        return join(tokens);
    }

    /** A case where it takes some questions till a thing is sure: witness 0 is silent, 1 knows all. */
    String puzzle() {
        forget();
        List<String> tokens = new ArrayList<>();
        for (int i = 2 + random.nextInt(2); i > 0; i--) {
            fact(tokens, chance(70) ? 2 : 3);
        }
        for (List<String> own : values) {
            String name = newName();
            tokens.addAll(List.of("question", name, "fee", "1", "asks", one(own), ";"));
            questions.add(name);
        }
        for (int i = 1 + random.nextInt(3); i > 0; i--) {
            question(tokens);
        }
        tokens.addAll(List.of("witness", newName(), "may", "silent", "16", ";", "witness", newName(), "knows"));
        tokens.addAll(facts);
        tokens.addAll(chance(70) ? List.of("may", "honest", "16", ";") : List.of("may", "honest", "9", "turns", "7", ";"));
        for (int i = random.nextInt(3); i > 0; i--) {
            witness(tokens);
        }
        return join(tokens);
    }

    /** A case without a fault (but that it may be too long), with at most so many worlds. */
    String goodCase(int mostWorlds) {
        forget();
        List<String> tokens = new ArrayList<>();
        int many = chance(5) ? 0 : 1 + random.nextInt(4);
        int worlds = 1;
        for (int i = 0; i < many; i++) {
            int size = 2 + random.nextInt(5);
            if (worlds * size <= mostWorlds) {
                worlds *= size;
                fact(tokens, size);
            }
            if (chance(10)) {
                witness(tokens);
            }
        }
        for (int i = random.nextInt(4); i > 0 && facts.size() > 1; i--) {
            never(tokens);
        }
        int asked = chance(20) ? 12 : chance(5) ? 0 : 1 + random.nextInt(9);
        for (int i = 0; i < asked && !facts.isEmpty(); i++) {
            question(tokens);
            if (chance(10)) {
                witness(tokens);
            }
        }
        for (int i = chance(5) ? 0 : 1 + random.nextInt(4); i > 0; i--) {
            witness(tokens);
        }
        return join(tokens);
    }

    private void fact(List<String> tokens, int size) {
        String name = newName();
        tokens.addAll(List.of("fact", name, "has"));
        List<String> own = new ArrayList<>();
        for (int j = 0; j < size; j++) {
            own.add(newName());
            tokens.add(own.get(j));
            if (chance(40)) {
                tokens.add(String.valueOf(1 + random.nextInt(9)));
            }
        }
        tokens.add(";");
        facts.add(name);
        values.add(own);
    }

    private void never(List<String> tokens) {
        int a = random.nextInt(facts.size());
        int b = (a + 1 + random.nextInt(facts.size() - 1)) % facts.size();
        tokens.addAll(List.of("never", one(values.get(a)), one(values.get(b)), ";"));
    }

    private void question(List<String> tokens) {
        String name = newName();
        tokens.addAll(List.of("question", name, "fee", String.valueOf(random.nextInt(100)), "asks"));
        either(tokens, 0);
        tokens.add(";");
        questions.add(name);
    }

    private void either(List<String> tokens, int depth) {
        both(tokens, depth);
        while (chance(25)) {
            tokens.add("or");
            both(tokens, depth);
        }
    }

    private void both(List<String> tokens, int depth) {
        single(tokens, depth);
        while (chance(20)) {
            tokens.add("and");
            single(tokens, depth);
        }
    }

    private void single(List<String> tokens, int depth) {
        int what = random.nextInt(nesting > 6 && depth > 0 ? 5 : 10);
        if (what < 2 && depth < nesting) {
            tokens.add("not");
            single(tokens, depth + 1);
        } else if (what < 4 && depth < nesting) {
            tokens.add("(");
            either(tokens, depth + 1);
            tokens.add(")");
        } else {
            tokens.add(one(one(values)));
        }
    }

    private void witness(List<String> tokens) {
        if (witnesses.size() == 4 && !chance(20)) {
            return;
        }
        String name = newName();
        tokens.addAll(List.of("witness", name));
        some(tokens, "knows", facts, 70);
        tokens.add("may");
        int rest = sixteenths;
        List<String> kinds = new ArrayList<>(KINDS);
        java.util.Collections.shuffle(kinds, random);
        int many = chance(40) ? 1 : 1 + random.nextInt(4);
        if (chance(50)) {
            kinds.remove("honest");
            kinds.add(0, "honest");
        }
        for (int i = 0; i < many; i++) {
            int part = i == many - 1 ? rest : 1 + random.nextInt(rest - (many - 1 - i));
            rest -= part;
            tokens.add(kinds.get(i));
            tokens.add(String.valueOf(part));
        }
        some(tokens, "hides", questions, 25);
        tokens.add(";");
        witnesses.add(name);
    }

    private void some(List<String> tokens, String word, List<String> of, int percent) {
        if (of.isEmpty() || !chance(percent)) {
            return;
        }
        tokens.add(word);
        List<String> mixed = new ArrayList<>(of);
        java.util.Collections.shuffle(mixed, random);
        tokens.addAll(mixed.subList(0, 1 + random.nextInt(mixed.size())));
    }

    /** A plan for the case drawn last, without a fault (but that it may be too long). */
    String goodPlan() {
        List<String> tokens = new ArrayList<>();
        steps(tokens, 0, 1 + random.nextInt(12));
        if (chance(60) && !questions.isEmpty()) {
            tokens.addAll(List.of("rule", one(questions), ";"));
        }
        return join(tokens);
    }

    private void steps(List<String> tokens, int depth, int many) {
        for (int i = 0; i < many; i++) {
            int what = random.nextInt(11);
            boolean canAsk = !witnesses.isEmpty() && !questions.isEmpty();
            if (what < 3 && canAsk) {
                tokens.addAll(List.of("ask", one(witnesses), one(questions), ";"));
            } else if (what < 6 && !witnesses.isEmpty()) {
                tokens.addAll(List.of("best", one(witnesses), ";"));
            } else if (what < 7) {
                tokens.addAll(List.of("next", ";"));
            } else if (what < 8 && chance(40) && !questions.isEmpty()) {
                tokens.addAll(List.of("rule", one(questions), ";"));
            } else if (depth < 3) {
                tokens.add("when");
                if (chance(30) || questions.isEmpty()) {
                    tokens.addAll(List.of("left", String.valueOf(random.nextInt(chance(20) ? 257 : 12))));
                } else {
                    tokens.addAll(List.of(one(List.of("sure", "yes", "no")), one(questions)));
                }
                tokens.add(";");
                steps(tokens, depth + 1, random.nextInt(4));
                tokens.addAll(List.of("end", ";"));
            }
        }
    }

    private String join(List<String> tokens) {
        StringBuilder text = new StringBuilder();
        for (String token : tokens) {
            boolean sign = ";()".contains(token);
            boolean close = text.length() > 0 && ";()".indexOf(text.charAt(text.length() - 1)) >= 0;
            if (chance(5) || text.length() > 0 && !sign && !close) {
                text.append(chance(10) ? '\n' : ' ');
            }
            text.append(token);
        }
        return text.toString();
    }

    /** The text with something wrong in it, most often. */
    String spoil(String text) {
        if (chance(30)) {
            return spoilByte(text);
        }
        List<String> tokens = new ArrayList<>(Arrays.asList(text.split("\\s+|(?=[;()])|(?<=[;()])")));
        int times = 1 + random.nextInt(2);
        for (int i = 0; i < times && !tokens.isEmpty(); i++) {
            int at = random.nextInt(tokens.size());
            int what = random.nextInt(4);
            if (what == 0) {
                tokens.remove(at);
            } else if (what == 1) {
                tokens.add(at, one(tokens));
            } else if (what == 2) {
                tokens.set(at, one(tokens));
            } else {
                tokens.set(at, strange());
            }
        }
        return join(tokens);
    }

    private String strange() {
        int what = random.nextInt(5);
        return switch (what) {
            case 0 -> one(WORDS);
            case 1 -> String.valueOf(random.nextInt(chance(50) ? 20 : 20000));
            case 2 -> one(List.of(";", "(", ")"));
            case 3 -> one(List.of("abcdefghi", "abcdefgh", "zzzzzzzzzz", "not not not not not not not a"));
            default -> names.isEmpty() ? "x" : one(names);
        };
    }

    private String spoilByte(String text) {
        if (text.isEmpty()) {
            return "!";
        }
        int at = random.nextInt(text.length());
        char c = chance(50) ? (char) random.nextInt(256) : one(List.of('a', '0', ' ', ';', '(', '\n', 'z'));
        int what = random.nextInt(3);
        String rest = text.substring(at + (what == 0 ? 0 : 1));
        return what == 2 ? text.substring(0, at) : text.substring(0, at) + c + rest;
    }
}
