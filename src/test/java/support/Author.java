import java.util.ArrayList;
import java.util.List;
import java.util.Random;

/** Writes texts of BOOKS at random, most of them without a FAULT, and MESSAGES for them. */
final class Author {
    private static final String[] WORDS = {"enum", "act", "table", "check", "holder", "switch", "case", "else",
        "value", "ord", "size", "above", "{", "}", "(", ")", "[", "]", ",", ";", ":", "=", "+", "-", "*", ".", "/",
        "1", "0", "x1", "A", "9x", "abcdefghijk", "1234567890", "123456789", "abcdefghij", "?", "\t", "\u00e9"};

    private final Random random;
    private final List<String> tokens = new ArrayList<>();
    private int enums;
    private int[] constants;
    private int[][] entries;
    private int[] holders;
    private int acts;
    private int wildness;
    /** Each enum reads the next one, so that as many ITEMS as may be, or more, are UNDER WAY at once. */
    private boolean chained;

    Author(Random random) {
        this.random = random;
    }

    private int upTo(int n) {
        return random.nextInt(n + 1);
    }

    private boolean once(int in) {
        return random.nextInt(in) == 0;
    }

    private void say(String... more) {
        tokens.addAll(List.of(more));
    }

    /** Few as a rule; now and then as many as may be, or one more. */
    private int some(int least, int few, int limit) {
        return once(60) ? limit + upTo(1) : least + upTo(few - least);
    }

    String writeBook() {
        tokens.clear();
        if (once(25)) {
            return writeSoup();
        }
        wildness = once(4) ? 25 : 100000;
        chained = once(8);
        enums = chained ? 9 + upTo(3) : some(1, 5, 12);
        acts = some(0, 3, 4);
        constants = new int[enums];
        entries = new int[enums][];
        holders = new int[enums];
        for (int e = 0; e < enums; e++) {
            constants[e] = chained ? 1 + upTo(1) : some(1, 4, 24);
            entries[e] = new int[chained ? upTo(1) : some(0, 2, 4)];
            holders[e] = chained ? 1 : some(0, 2, 4);
            for (int t = 0; t < entries[e].length; t++) {
                entries[e][t] = some(1, 4, 12);
            }
        }
        for (int e = 0; e < enums; e++) {
            writeEnum(e);
        }
        if (once(3)) {
            spoil();
        }
        return joined();
    }

    /** TOKENS of all sorts behind one another. */
    private String writeSoup() {
        if (once(2)) {
            say("enum", "A", "{", "a");
        }
        for (int n = upTo(30); n >= 0; n--) {
            say(WORDS[random.nextInt(WORDS.length)]);
        }
        return joined();
    }

    private void spoil() {
        for (int n = upTo(2); n >= 0; n--) {
            int at = random.nextInt(tokens.size());
            String other = once(2) ? WORDS[random.nextInt(WORDS.length)] : tokens.get(random.nextInt(tokens.size()));
            switch (random.nextInt(4)) {
                case 0 -> tokens.set(at, other);
                case 1 -> tokens.add(at, other);
                case 2 -> tokens.remove(at);
                default -> tokens.subList(at, tokens.size()).clear();
            }
            if (tokens.isEmpty()) {
                return;
            }
        }
    }

    private String joined() {
        StringBuilder text = new StringBuilder();
        for (String token : tokens) {
            boolean touches = text.length() > 0 && Character.isLetterOrDigit(text.charAt(text.length() - 1))
                && Character.isLetterOrDigit(token.charAt(0));
            if (touches && !once(5000) || once(20)) {
                text.append(once(5) ? "\n" : " ");
            }
            text.append(token);
        }
        return once(10) ? text + " " : text.toString();
    }

    private void writeEnum(int e) {
        say("enum", enumName(e), "{");
        for (int i = 0; i < constants[e]; i++) {
            say(i == 0 ? "" : ",");
            say(constantName(e, i));
            if (chained && i == 0) {
                writeLink(e, (e + 1) % enums);
            } else if (once(2)) {
                say("(");
                expr(e, 2, "ord");
                say(")");
            }
            if (acts > 0 && once(3)) {
                say("{");
                bodies(e, "ord value above");
                say("}");
            }
        }
        say(";");
        tokens.removeIf(String::isEmpty);
        writeMembers(e);
        say("}");
    }

    private void writeLink(int e, int next) {
        say("(", enumName(next), ".", once(4) ? "h0" : constantName(next, 0));
        if (once(2)) {
            say("+");
            factor(e, 0, "ord");
        }
        say(")");
    }

    private void bodies(int e, String words) {
        int skipped = random.nextInt(acts);
        for (int act = 0; act < acts; act++) {
            if (act == skipped || once(3)) {
                say("act", once(wildness) ? "do0" : "do" + act, "=");
                expr(e, 2, words);
                say(";");
            }
        }
    }

    private void writeMembers(int e) {
        if (acts > 0 && once(2)) {
            bodies(e, "ord value");
        }
        for (int t = 0; t < entries[e].length; t++) {
            say("table", tableName(e, t), "=", "[");
            for (int k = 0; k < entries[e][t]; k++) {
                if (k > 0) {
                    say(",");
                }
                expr(e, 2, "");
            }
            say("]", ";");
        }
        for (int c = once(3) ? some(0, 2, 3) : 0; c > 0; c--) {
            say("check");
            expr(e, 1, "");
            say(";");
        }
        for (int h = 0; h < holders[e]; h++) {
            say("holder", "h" + h, "=");
            if (chained) {
                say(constantName(e, 0), "+");
            }
            expr(e, 2, "");
            say(";");
        }
        for (int s = some(0, 1, 3); s > 0; s--) {
            writeSwitch(e, s);
        }
    }

    private void writeSwitch(int e, int s) {
        say("switch", "s" + s, "{");
        int cases = Math.min(some(0, 3, 12), constants[e]);
        for (int k = 0; k < cases; k++) {
            say("case", once(wildness) ? anyName(e) : constantName(e, k), ":");
            expr(e, 1, "");
            say(";");
        }
        say("else", ":");
        expr(e, 1, "");
        say(";", "}");
    }

    private void expr(int e, int depth, String words) {
        if (once(300)) {
            nested(e, 11 + upTo(2));
            return;
        }
        for (int n = once(2) ? 0 : upTo(2); n >= 0; n--) {
            factor(e, depth, words);
            if (n > 0) {
                say(List.of("+", "-", "*", "+", "-", "*", "/").get(random.nextInt(7)));
            }
        }
    }

    private void nested(int e, int signs) {
        List<String> ends = new ArrayList<>();
        for (int n = 0; n < signs; n++) {
            if (entries[e].length > 0 && once(3)) {
                say(tableName(e, random.nextInt(entries[e].length)), "[");
                ends.add(0, "]");
            } else if (once(2)) {
                say("-");
                ends.add(0, "");
            } else {
                say("(");
                ends.add(0, ")");
            }
        }
        factor(e, 0, "");
        say(ends.toArray(new String[0]));
        tokens.removeIf(String::isEmpty);
    }

    private void factor(int e, int depth, String words) {
        int of = once(2) ? e : random.nextInt(enums);
        if (once(wildness)) {
            say(once(2) ? anyName(e) : "E" + upTo(enums), ".", anyName(of));
            return;
        }
        if (of != e || once(4)) {
            if (once(2) && (holders[of] > 0 || entries[of].length > 0 || once(2))) {
                say(enumName(of), ".");
                referred(e, of, depth);
                return;
            }
        }
        switch (random.nextInt(9)) {
            case 0, 1 -> say(Integer.toString(upTo(4)));
            case 2 -> say(List.of("0", "7", "999999999", "65536", "007").get(random.nextInt(5)));
            case 3 -> {
                if (depth > 0) {
                    say("(");
                    expr(e, depth - 1, words);
                    say(")");
                } else {
                    say("1");
                }
            }
            case 4 -> {
                say("-");
                factor(e, 0, words);
            }
            case 5, 6 -> {
                String[] may = words.isEmpty() ? new String[] {"size"} : words.split(" ");
                say(once(wildness) ? "value" : may[random.nextInt(may.length)]);
            }
            default -> referred(e, e, depth);
        }
    }

    private void referred(int e, int of, int depth) {
        int sort = random.nextInt(3);
        if (sort == 0 && holders[of] > 0) {
            say("h" + random.nextInt(holders[of]));
        } else if (sort == 1 && entries[of].length > 0) {
            int t = random.nextInt(entries[of].length);
            say(tableName(of, t), "[");
            if (once(3) && depth > 0) {
                expr(e, depth - 1, "");
            } else {
                say(Integer.toString(once(25) ? 12 : random.nextInt(entries[of][t])));
            }
            say("]");
        } else {
            say(constantName(of, random.nextInt(constants[of])));
        }
    }

    private String enumName(int e) {
        return once(wildness) ? "E0" : "E" + e;
    }

    private String constantName(int e, int i) {
        return once(wildness) ? anyName(e) : (e % 2 == 0 ? "c" : "d") + i;
    }

    private String tableName(int e, int t) {
        return once(wildness) ? anyName(e) : "t" + t;
    }

    private String anyName(int e) {
        return List.of("c0", "c1", "d0", "t0", "h0", "s1", "E0", "E1", "nobody").get(random.nextInt(9));
    }

    String writeMessage() {
        tokens.clear();
        for (int n = once(6) ? 55 + upTo(8) : upTo(6); n > 0; n--) {
            say((once(2) ? "c" : "d") + (once(12) ? upTo(9) : 0));
            if (once(3)) {
                say(List.of("0", "5", "00012", "999999999", "1000000", "10").get(random.nextInt(6)));
            }
        }
        if (once(5) && !tokens.isEmpty()) {
            spoil();
        }
        return joined();
    }
}
