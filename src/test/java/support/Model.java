import java.util.ArrayList;
import java.util.HashMap;
import java.util.LinkedHashMap;
import java.util.List;
import java.util.Map;
import java.util.TreeMap;
import java.util.TreeSet;
import java.util.regex.Matcher;
import java.util.regex.Pattern;

/**
 * The document once more, written another way: trees that work themselves out, names looked up when they are
 * read, FAULTS and FAILURES thrown. The random runs hold SignalBook against it.
 */
final class Model {
    static final int NONE = -1, FULL = -2, FAILED = -3, BAD = -4;
    private static final List<String> KEYWORDS = List.of("enum", "act", "table", "check", "holder", "switch",
        "case", "else", "value", "ord", "size", "above");

    // ---- texts

    private static final class Fault extends RuntimeException {
        private static final long serialVersionUID = 1L;
        final int kind;
        final int place;

        Fault(int kind, int place) {
            super(null, null, false, false);
            this.kind = kind;
            this.place = place;
        }
    }

    /** kind: w a NAME, n a NUMBER, k a KEYWORD, s a sign, x no TOKEN, e the end. */
    private record Token(char kind, String text, int place) {
        boolean is(String wanted) {
            return (kind == 'k' || kind == 's') && text.equals(wanted);
        }
    }

    private static List<Token> tokensOf(String text) {
        List<Token> found = new ArrayList<>();
        Matcher m = Pattern.compile("[a-zA-Z0-9]+|[^ \\n]", Pattern.DOTALL).matcher(text);
        while (m.find()) {
            String t = m.group();
            char kind = KEYWORDS.contains(t) ? 'k' : t.matches("[a-zA-Z][a-zA-Z0-9]{0,9}") ? 'w'
                : t.matches("[0-9]{1,9}") ? 'n' : t.matches("[-{}()\\[\\],;:=+*./]") ? 's' : 'x';
            found.add(new Token(kind, t, m.start()));
        }
        found.add(new Token('e', "", text.length()));
        return found;
    }

    // ---- what a text tells

    private interface Expr {
        int of(Scene scene);
    }

    private static final class Const {
        String name;
        Expr argument;
        int value;
        final Map<String, Expr> bodies = new HashMap<>();
    }

    private static final class Item {
        final int number;
        int state;
        int value;
        Expr expr;

        Item(int number) {
            this.number = number;
        }
    }

    private static final class Enum {
        String name;
        Item item;
        final List<Const> constants = new ArrayList<>();
        int made;
        final Map<String, List<Expr>> tables = new LinkedHashMap<>();
        final Map<String, List<Integer>> entries = new HashMap<>();
        final List<Expr> checks = new ArrayList<>();
        final Map<String, Item> holders = new LinkedHashMap<>();
        final Map<String, Map<String, Expr>> switches = new LinkedHashMap<>();
        final Map<String, Expr> bodies = new HashMap<>();

        boolean knows(String n) {
            return ordinal(n) >= 0 || tables.containsKey(n) || holders.containsKey(n) || switches.containsKey(n);
        }

        int ordinal(String n) {
            for (int i = 0; i < constants.size(); i++) {
                if (constants.get(i).name.equals(n)) {
                    return i;
                }
            }
            return -1;
        }
    }

    private static final class Book {
        final Map<String, Enum> enums = new LinkedHashMap<>();
        final List<String> acts = new ArrayList<>();
        final List<Item> underWay = new ArrayList<>();
        final List<Integer> starts = new ArrayList<>();
        final List<int[]> seen = new ArrayList<>();

        Enum at(int e) {
            return e < 0 || e >= enums.size() ? null : new ArrayList<>(enums.values()).get(e);
        }
    }

    private record Scene(Book book, Enum of, int i, String act) { }

    /** sort: t a table, c a constant, v a constant or holder. */
    private record Reference(Token owner, Token name, Enum home, char sort) { }

    private static final class Parser {
        final List<Token> tokens;
        int at;
        final Book book = new Book();
        Enum now;
        String allowed = "";
        final List<Reference> references = new ArrayList<>();

        Parser(String text) {
            tokens = tokensOf(text);
        }

        Token next() {
            return tokens.get(at);
        }

        Fault fault(int kind) {
            return new Fault(next().kind == 'x' ? 1 : kind, next().place);
        }

        boolean skip(String sign) {
            if (next().is(sign)) {
                at++;
                return true;
            }
            return false;
        }

        void need(String... signs) {
            for (String sign : signs) {
                if (!skip(sign)) {
                    throw fault(2);
                }
            }
        }

        String name() {
            if (next().kind != 'w') {
                throw fault(2);
            }
            return tokens.get(at++).text;
        }

        void counted(int count, int limit) {
            if (count >= limit) {
                throw fault(5);
            }
        }

        void unlike(boolean known) {
            if (next().kind == 'w' && known) {
                throw fault(3);
            }
        }

        Book parse() {
            do {
                if (next().is("enum")) {
                    counted(book.enums.size(), 12);
                }
                need("enum");
                unlike(book.enums.containsKey(next().text));
                now = new Enum();
                now.name = name();
                now.item = new Item(book.enums.size());
                book.enums.put(now.name, now);
                need("{");
                do {
                    constant();
                } while (skip(","));
                need(";");
                while (!skip("}")) {
                    member();
                }
            } while (next().kind != 'e');
            for (Reference r : references) {
                check(r);
            }
            return book;
        }

        void check(Reference r) {
            Enum of = r.owner == null ? r.home : book.enums.get(r.owner.text);
            if (of == null) {
                throw new Fault(4, r.owner.place);
            }
            String n = r.name.text;
            boolean found = r.sort == 't' ? of.tables.containsKey(n)
                : of.ordinal(n) >= 0 || r.sort == 'v' && of.holders.containsKey(n);
            if (!found) {
                throw new Fault(4, r.name.place);
            }
        }

        void constant() {
            unlike(now.knows(next().text));
            if (next().kind == 'w') {
                counted(now.constants.size(), 24);
            }
            Const c = new Const();
            c.name = name();
            now.constants.add(c);
            if (skip("(")) {
                c.argument = expr("ord");
                need(")");
            }
            if (skip("{")) {
                do {
                    act(c.bodies, "ord value above");
                } while (!skip("}"));
            }
        }

        void act(Map<String, Expr> bodies, String words) {
            need("act");
            unlike(bodies.containsKey(next().text));
            if (next().kind == 'w' && !book.acts.contains(next().text)) {
                counted(book.acts.size(), 4);
                book.acts.add(next().text);
            }
            String act = name();
            bodies.put(act, null);
            need("=");
            bodies.put(act, expr(words));
            need(";");
        }

        void member() {
            String word = next().kind == 'k' ? next().text : "";
            if (word.equals("act")) {
                act(now.bodies, "ord value");
            } else if (word.equals("table")) {
                counted(now.tables.size(), 4);
                table();
            } else if (word.equals("check")) {
                counted(now.checks.size(), 3);
                at++;
                now.checks.add(expr(""));
                need(";");
            } else if (word.equals("holder")) {
                counted(now.holders.size(), 4);
                String name = newName();
                Item item = new Item(100 + 4 * now.item.number + now.holders.size());
                now.holders.put(name, item);
                need("=");
                item.expr = expr("");
                need(";");
            } else if (word.equals("switch")) {
                counted(now.switches.size(), 3);
                choice();
            } else {
                throw fault(2);
            }
        }

        String newName() {
            at++;
            unlike(now.knows(next().text));
            return name();
        }

        void table() {
            List<Expr> entries = new ArrayList<>();
            now.tables.put(newName(), entries);
            need("=", "[");
            do {
                if (entries.size() == 12) {
                    Token t = next();
                    boolean begins = t.kind == 'n' || t.kind == 'w' || t.is("size") || t.is("-") || t.is("(");
                    throw fault(begins ? 5 : 2);
                }
                entries.add(expr(""));
            } while (skip(","));
            need("]", ";");
        }

        void choice() {
            Map<String, Expr> cases = new HashMap<>();
            now.switches.put(newName(), cases);
            need("{");
            while (next().is("case")) {
                counted(cases.size(), 12);
                at++;
                unlike(cases.containsKey(next().text));
                references.add(new Reference(null, next(), now, 'c'));
                String of = name();
                need(":");
                cases.put(of, expr(""));
                need(";");
            }
            need("else", ":");
            cases.put("else", expr(""));
            need(";", "}");
        }

        Expr expr(String words) {
            allowed = words;
            return sum(0);
        }

        Expr sum(int depth) {
            Expr left = product(depth);
            while (next().is("+") || next().is("-")) {
                left = joined(left, tokens.get(at++).text.charAt(0), product(depth));
            }
            return left;
        }

        Expr product(int depth) {
            Expr left = factor(depth);
            while (next().is("*") || next().is("/")) {
                left = joined(left, tokens.get(at++).text.charAt(0), factor(depth));
            }
            return left;
        }

        static Expr joined(Expr left, char sign, Expr right) {
            return s -> {
                int a = left.of(s);
                int b = right.of(s);
                if (sign == '/' && b == 0) {
                    throw new Failure(4, NONE);
                }
                return sign == '+' ? a + b : sign == '-' ? a - b : sign == '*' ? a * b : a / b;
            };
        }

        Expr factor(int depth) {
            Token t = next();
            if (t.is("-") || t.is("(")) {
                counted(depth, 12);
            }
            if (skip("-")) {
                Expr inner = factor(depth + 1);
                return s -> -inner.of(s);
            }
            if (skip("(")) {
                Expr inner = sum(depth + 1);
                need(")");
                return inner;
            }
            if (t.kind == 'n') {
                at++;
                return s -> Integer.parseInt(t.text);
            }
            if (t.is("size")) {
                at++;
                return s -> s.of.constants.size();
            }
            if (t.kind == 'k' && List.of(allowed.split(" ")).contains(t.text)) {
                at++;
                return t.text.equals("ord") ? s -> s.i
                    : t.text.equals("value") ? s -> s.of.constants.get(s.i).value
                    : s -> ofBody(s, s.of.bodies.get(s.act));
            }
            if (t.kind != 'w') {
                throw fault(2);
            }
            return reference(depth);
        }

        Expr reference(int depth) {
            Token first = tokens.get(at++);
            Token owner = null;
            Token named = first;
            if (skip(".")) {
                owner = first;
                named = next();
                name();
            }
            boolean indexed = next().is("[");
            references.add(new Reference(owner, named, now, indexed ? 't' : 'v'));
            Enum home = now;
            String e = owner == null ? home.name : owner.text;
            String n = named.text;
            if (!indexed) {
                return s -> readName(s.book, s.book.enums.get(e), n);
            }
            counted(depth, 12);
            at++;
            Expr index = sum(depth + 1);
            need("]");
            return s -> readEntry(s, s.book.enums.get(e), n, index);
        }
    }

    // ---- starts

    private static final class Failure extends RuntimeException {
        private static final long serialVersionUID = 1L;
        final transient List<int[]> causes = new ArrayList<>();

        Failure(int kind, int item) {
            super(null, null, false, false);
            causes.add(new int[] {kind, item});
        }
    }

    private static int ofBody(Scene s, Expr body) {
        if (body == null) {
            throw new Failure(5, NONE);
        }
        return body.of(s);
    }

    private static void see(Book b, Item read) {
        b.seen.add(new int[] {b.underWay.get(b.underWay.size() - 1).number, read.number});
    }

    private static int readName(Book b, Enum e, String n) {
        int i = e.ordinal(n);
        if (i >= 0) {
            use(b, e, e.item);
            if (i >= e.made) {
                see(b, e.item);
                return -1;
            }
            return i;
        }
        Item h = e.holders.get(n);
        use(b, e, h);
        if (h.state == 3) {
            see(b, h);
            return 0;
        }
        return h.value;
    }

    private static int readEntry(Scene s, Enum e, String n, Expr index) {
        use(s.book, e, e.item);
        int k = index.of(s);
        if (k < 0 || k >= e.tables.get(n).size()) {
            throw new Failure(4, NONE);
        }
        List<Integer> there = e.entries.getOrDefault(n, List.of());
        if (k >= there.size()) {
            see(s.book, e.item);
            return 0;
        }
        return there.get(k);
    }

    private static void use(Book b, Enum e, Item item) {
        if (item.state == 2) {
            throw new Failure(2, item.number);
        }
        if (item.state != 0) {
            return;
        }
        if (b.underWay.size() == 12) {
            throw new Failure(6, NONE);
        }
        item.state = 3;
        b.underWay.add(item);
        b.starts.add(item.number);
        try {
            if (item == e.item) {
                make(b, e);
            } else {
                item.value = item.expr.of(new Scene(b, e, -1, null));
            }
            item.state = 1;
        } catch (Failure f) {
            item.state = 2;
            f.causes.add(0, new int[] {1, item.number});
            throw f;
        } finally {
            b.underWay.remove(b.underWay.size() - 1);
        }
    }

    private static void make(Book b, Enum e) {
        for (Const c : e.constants) {
            c.value = c.argument == null ? 0 : c.argument.of(new Scene(b, e, e.made, null));
            e.made++;
        }
        Scene plain = new Scene(b, e, -1, null);
        e.tables.forEach((name, exprs) -> {
            List<Integer> there = new ArrayList<>();
            e.entries.put(name, there);
            exprs.forEach(x -> there.add(x.of(plain)));
        });
        for (Expr check : e.checks) {
            if (check.of(plain) == 0) {
                throw new Failure(3, NONE);
            }
        }
    }

    // ---- the face

    private String tape = "";
    private final List<Book> books = new ArrayList<>();
    private int wrong;
    private int out;
    private List<int[]> causes = new ArrayList<>();

    private record Chosen(int b, int e, TreeSet<Integer> in) { }

    private record Mapped(int b, int e, TreeMap<Integer, Integer> in) { }

    private record Signal(int e, int i, int added, String name) { }

    private record Message(int b, List<Signal> signals) { }

    private final List<Chosen> sets = new ArrayList<>();
    private final List<Mapped> maps = new ArrayList<>();
    private final List<Message> messages = new ArrayList<>();

    private static <T> T at(List<T> list, int i) {
        return i < 0 || i >= list.size() ? null : list.get(i);
    }

    private Enum enumAt(int b, int e) {
        Book in = at(books, b);
        return in == null ? null : in.at(e);
    }

    private interface Work {
        int done();
    }

    private int attempt(Work work) {
        try {
            return work.done();
        } catch (Failure f) {
            causes = f.causes;
            return FAILED;
        }
    }

    private int gives(Work work) {
        return attempt(() -> {
            out = work.done();
            return 0;
        });
    }

    private int used(int b, Enum e) {
        use(books.get(b), e, e.item);
        return 0;
    }

    int feed(long w, int n) {
        if (n < 1 || n > 8) {
            return BAD;
        }
        if (tape.length() + n > 3000) {
            return FULL;
        }
        StringBuilder more = new StringBuilder(tape);
        for (int k = n; k-- > 0;) {
            more.append((char) (w >> 8 * k & 255));
        }
        tape = more.toString();
        return tape.length();
    }

    int cut(int n) {
        if (n < 0 || n > tape.length()) {
            return BAD;
        }
        tape = tape.substring(0, n);
        return n;
    }

    int book() {
        if (books.size() == 10) {
            return FULL;
        }
        String text = tape;
        tape = "";
        try {
            Parser p = new Parser(text);
            Book read = p.parse();
            wrong = 0;
            books.add(read);
            return books.size() - 1;
        } catch (Fault f) {
            wrong = f.kind;
            return -10 - f.place;
        }
    }

    int wrong() {
        return wrong;
    }

    int told(int b, int what) {
        Book in = at(books, b);
        if (in == null || what < 0 || what > 3) {
            return NONE;
        }
        return List.of(in.enums.size(), in.acts.size(), in.starts.size(), in.seen.size()).get(what);
    }

    int about(int b, int e, int what) {
        Enum of = enumAt(b, e);
        if (of == null || what < 0 || what > 4) {
            return NONE;
        }
        return List.of(of.constants.size(), of.tables.size(), of.checks.size(), of.holders.size(),
            of.switches.size()).get(what);
    }

    int state(int b, int item) {
        Book in = at(books, b);
        if (in != null) {
            for (Enum e : in.enums.values()) {
                if (e.item.number == item) {
                    return e.item.state;
                }
                for (Item h : e.holders.values()) {
                    if (h.number == item) {
                        return h.state;
                    }
                }
            }
        }
        return NONE;
    }

    int letter(int b, int e, int i, int k) {
        Enum of = enumAt(b, e);
        if (of == null || i < -1 || i >= of.constants.size()) {
            return NONE;
        }
        String name = i == -1 ? of.name : of.constants.get(i).name;
        return k < 0 || k >= name.length() ? NONE : name.charAt(k);
    }

    int body(int b, int e, int i, int act) {
        Enum of = enumAt(b, e);
        if (of == null || i < -1 || i >= of.constants.size() || at(books.get(b).acts, act) == null) {
            return NONE;
        }
        return (i == -1 ? of.bodies : of.constants.get(i).bodies).containsKey(books.get(b).acts.get(act)) ? 1 : 0;
    }

    int use(int b, int e) {
        Enum of = enumAt(b, e);
        return of == null ? NONE : attempt(() -> used(b, of));
    }

    int argument(int b, int e, int i) {
        Enum of = enumAt(b, e);
        Const c = of == null ? null : at(of.constants, i);
        return c == null ? NONE : gives(() -> used(b, of) + c.value);
    }

    int act(int b, int e, int i, int act) {
        Enum of = enumAt(b, e);
        Const c = of == null ? null : at(of.constants, i);
        String name = c == null ? null : at(books.get(b).acts, act);
        if (name == null) {
            return NONE;
        }
        return gives(() -> {
            used(b, of);
            Expr own = c.bodies.get(name);
            return ofBody(new Scene(books.get(b), of, i, name), own != null ? own : of.bodies.get(name));
        });
    }

    int entry(int b, int e, int t, int k) {
        Enum of = enumAt(b, e);
        String name = of == null ? null : at(new ArrayList<>(of.tables.keySet()), t);
        if (name == null || k < 0 || k >= of.tables.get(name).size()) {
            return NONE;
        }
        return gives(() -> used(b, of) + of.entries.get(name).get(k));
    }

    int holder(int b, int e, int h) {
        Enum of = enumAt(b, e);
        Item item = of == null ? null : at(new ArrayList<>(of.holders.values()), h);
        if (item == null) {
            return NONE;
        }
        return gives(() -> {
            use(books.get(b), of, item);
            return item.value;
        });
    }

    int branch(int b, int e, int s, int i) {
        Enum of = enumAt(b, e);
        Map<String, Expr> cases = of == null ? null : at(new ArrayList<>(of.switches.values()), s);
        if (cases == null || at(of.constants, i) == null) {
            return NONE;
        }
        return gives(() -> {
            used(b, of);
            Expr x = cases.getOrDefault(of.constants.get(i).name, cases.get("else"));
            return x.of(new Scene(books.get(b), of, i, null));
        });
    }

    int out() {
        return out;
    }

    int cause(int i, int what) {
        return at(causes, i) == null || what < 0 || what > 1 ? NONE : causes.get(i)[what];
    }

    int start(int b, int i) {
        Book in = at(books, b);
        return in == null || at(in.starts, i) == null ? NONE : in.starts.get(i);
    }

    int seen(int b, int i, int what) {
        Book in = at(books, b);
        return in == null || at(in.seen, i) == null || what < 0 || what > 1 ? NONE : in.seen.get(i)[what];
    }

    int set(int b, int e) {
        Enum of = enumAt(b, e);
        if (of == null) {
            return NONE;
        }
        return sets.size() == 40 ? FULL : attempt(() -> {
            used(b, of);
            sets.add(new Chosen(b, e, new TreeSet<>()));
            return sets.size() - 1;
        });
    }

    private boolean has(int b, int e, int i) {
        return at(enumAt(b, e).constants, i) != null;
    }

    int add(int set, int i) {
        Chosen c = at(sets, set);
        return c == null || !has(c.b, c.e, i) ? NONE : c.in.add(i) ? 1 : 0;
    }

    int take(int set, int i) {
        Chosen c = at(sets, set);
        return c == null || !has(c.b, c.e, i) ? NONE : c.in.remove(i) ? 1 : 0;
    }

    int join(int a, int b, int how) {
        Chosen x = at(sets, a);
        Chosen y = at(sets, b);
        if (x == null || y == null) {
            return NONE;
        }
        if (x.b != y.b || x.e != y.e || how < 0 || how > 3) {
            return BAD;
        }
        if (sets.size() == 40) {
            return FULL;
        }
        TreeSet<Integer> in = new TreeSet<>();
        for (int i = 0; i < 24; i++) {
            boolean p = x.in.contains(i);
            boolean q = y.in.contains(i);
            if (how == 0 ? p || q : how == 1 ? p && q : how == 2 ? p && !q : p != q) {
                in.add(i);
            }
        }
        sets.add(new Chosen(x.b, x.e, in));
        return sets.size() - 1;
    }

    int member(int set, int k) {
        Chosen c = at(sets, set);
        if (c == null) {
            return NONE;
        }
        Integer found = at(new ArrayList<>(c.in), k);
        return k == -1 ? c.in.size() : found == null ? NONE : found;
    }

    int map(int b, int e) {
        Enum of = enumAt(b, e);
        if (of == null) {
            return NONE;
        }
        return maps.size() == 10 ? FULL : attempt(() -> {
            used(b, of);
            maps.add(new Mapped(b, e, new TreeMap<>()));
            return maps.size() - 1;
        });
    }

    int put(int map, int i, int v) {
        Mapped m = at(maps, map);
        return m == null || !has(m.b, m.e, i) ? NONE : m.in.put(i, v) == null ? 1 : 0;
    }

    int get(int map, int i) {
        Mapped m = at(maps, map);
        if (m == null || !has(m.b, m.e, i)) {
            return NONE;
        }
        if (!m.in.containsKey(i)) {
            return 0;
        }
        out = m.in.get(i);
        return 1;
    }

    int encode(int b) {
        Book in = at(books, b);
        if (in == null) {
            return NONE;
        }
        if (messages.size() == 20) {
            return FULL;
        }
        String text = tape;
        tape = "";
        List<Signal> signals = new ArrayList<>();
        boolean mayAdd = false;
        for (Token t : tokensOf(text)) {
            Signal s = t.kind == 'w' && signals.size() < 60 ? signalOf(in, t.text) : null;
            if (s != null) {
                signals.add(s);
                mayAdd = true;
            } else if (t.kind == 'n' && mayAdd) {
                Signal last = signals.remove(signals.size() - 1);
                signals.add(new Signal(last.e, last.i, Integer.parseInt(t.text), last.name));
                mayAdd = false;
            } else if (t.kind != 'e' || signals.isEmpty()) {
                return -10 - t.place;
            }
        }
        messages.add(new Message(b, signals));
        return messages.size() - 1;
    }

    private static Signal signalOf(Book in, String name) {
        int e = 0;
        for (Enum of : in.enums.values()) {
            if (of.ordinal(name) >= 0) {
                return new Signal(e, of.ordinal(name), 0, name);
            }
            e++;
        }
        return null;
    }

    int signal(int message, int i, int what) {
        Message m = at(messages, message);
        Signal s = m == null ? null : at(m.signals, i);
        return s == null ? NONE : what == 0 ? s.e : what == 1 ? s.i : what == 2 ? s.added : what == 3 ? m.b : NONE;
    }

    int decode(int message) {
        Message m = at(messages, message);
        if (m == null) {
            return NONE;
        }
        List<String> words = new ArrayList<>();
        for (Signal s : m.signals) {
            words.add(s.name);
            if (s.added != 0) {
                words.add(Integer.toString(s.added));
            }
        }
        tape = String.join(" ", words);
        return tape.length();
    }
}
