/** The sentences of Promises 1 to 20, each at its edges. */
public final class EdgesOfCallsTest {
    private static final int NONE = SignalBook.NONE, FULL = SignalBook.FULL, FAILED = SignalBook.FAILED,
        BAD = SignalBook.BAD;

    public static void main(String[] args) {
        newObject();
        feed();
        feedRefused();
        cut();
        cutRefused();
        book();
        bookFull();
        bookStartsNothing();
        wrong();
        told();
        toldNone();
        about();
        aboutNone();
        state();
        stateNone();
        letter();
        letterNone();
        body();
        bodyNone();
        use();
        useRefused();
        argument();
        argumentUses();
        argumentRefused();
        act();
        actRefused();
        entry();
        entryRefused();
        holder();
        holderRefused();
        branch();
        branchRefused();
        out();
        cause();
        causeNone();
        start();
        startNone();
        seen();
        seenNone();
        Desk.end();
    }

    private static void newObject() {
        Desk d = Desk.on(1, "No BOOKS, an empty TAPE.");
        SignalBook x = d.x;
        int[] none = {x.told(0, 0), x.about(0, 0, 0), x.state(0, 0), x.letter(0, 0, -1, 0), x.body(0, 0, -1, 0),
            x.use(0, 0), x.argument(0, 0, 0), x.act(0, 0, 0, 0), x.entry(0, 0, 0, 0), x.holder(0, 0, 0),
            x.branch(0, 0, 0, 0), x.cause(0, 0), x.cause(0, 1), x.start(0, 0), x.seen(0, 0, 0), x.set(0, 0),
            x.add(0, 0), x.take(0, 0), x.join(0, 0, 0), x.member(0, -1), x.map(0, 0), x.put(0, 0, 0), x.get(0, 0),
            x.encode(0), x.signal(0, 0, 3), x.decode(0)};
        for (int k = 0; k < none.length; k++) {
            d.due("call " + k, none[k], NONE);
        }
        d.due("out()", x.out(), 0);
        d.due("wrong()", x.wrong(), 0);
        d.due("cut(0)", x.cut(0), 0);
        d.due("cut(1)", x.cut(1), BAD);
        d.due("book()", x.book(), -10);
        d.due("the first byte", new SignalBook().feed(0, 1), 1);
        // objects of their own
        d.told("enum A{a;}", 0);
        d.due("another object's BOOKS", new SignalBook().told(0, 0), NONE);
    }

    private static void feed() {
        Desk d = Desk.on(2, "The n lowest bytes of w, the highest first, come behind THE TAPE's: how many it has.");
        String text = "enum A{abcdefgh,bcdefghi,cdefghij;} ";
        int has = 0;
        for (int n = 1; n <= 8; n++) {
            long w = 0xfedcba9876543210L;
            for (int k = 0; k < n; k++) {
                w = w << 8 | text.charAt(has + k);
            }
            has += n;
            d.due("feed of " + n, d.x.feed(w, n), has);
        }
        d.due("all of it", has, text.length());
        d.due("book()", d.x.book(), 0);
        for (int i = 0; i < 3; i++) {
            for (int k = 0; k < 8; k++) {
                d.due("letter " + k, d.x.letter(0, 0, i, k), 'a' + i + k);
            }
        }
        // a byte of 128 or more is one byte, and no TOKEN
        d.due("eight bytes of 255", d.x.feed(-1L, 8), 8);
        d.due("a byte of 128", d.x.feed(Long.MIN_VALUE >> 56, 1), 9);
        d.due("cut(0)", d.x.cut(0), 0);
        d.due("32, then 128", d.x.feed(0x2080, 2), 2);
        d.due("book()", d.x.book(), -11);
        d.due("wrong()", d.x.wrong(), 1);
    }

    private static void feedRefused() {
        Desk d = Desk.on(2, "BAD: n is not 1 .. 8; FULL.");
        int[] bad = {0, -1, 9, 10, 16, Integer.MAX_VALUE, Integer.MIN_VALUE};
        for (int n : bad) {
            d.due("feed of " + n, d.x.feed(0, n), BAD);
        }
        d.due("nothing came", d.x.feed(' ', 1), 1);
        d.due("8 more", d.x.feed(0x2020202020202020L, 8), 9);
        d.feed(" ".repeat(2984));
        d.due("cut(2993)", d.x.cut(2993), 2993);
        d.due("8 behind 2993", d.x.feed(0x2020202020202020L, 8), FULL);
        d.due("not a part of them either", d.x.cut(2994), BAD);
        d.due("7 behind 2993", d.x.feed(0x20202020202020L, 7), 3000);
        for (int n = 1; n <= 8; n++) {
            d.due(n + " behind 3000", d.x.feed(0x20, n), FULL);
        }
        for (int n : bad) {
            d.due("BAD is told ahead of FULL, " + n, d.x.feed(0, n), BAD);
        }
        d.due("the tape stays", d.x.book(), -3010);
    }

    private static void cut() {
        Desk d = Desk.on(3, "THE TAPE keeps its first n bytes: n.");
        d.feed("enum A{a,b;}z;}");
        d.due("all of them", d.x.cut(15), 15);
        d.due("but the last", d.x.cut(14), 14);
        d.due("cut(8)", d.x.cut(8), 8);
        d.due("what was cut is gone", d.x.cut(9), BAD);
        d.due("feed", d.x.feed(0x2c7a3b7dL, 4), 12);
        d.due("book()", d.x.book(), 0);
        d.due("the second constant", d.x.letter(0, 0, 1, 0), 'z');
        d.feed("enum");
        d.due("none of them", d.x.cut(0), 0);
        d.due("none of none", d.x.cut(0), 0);
        d.due("the text is empty", d.x.book(), -10);
    }

    private static void cutRefused() {
        Desk d = Desk.on(3, "BAD: it has not so many, n below 0.");
        for (int n : new int[] {1, 2, 3000, 3001, Integer.MAX_VALUE, -1, Integer.MIN_VALUE}) {
            d.due("cut(" + n + ") of none", d.x.cut(n), BAD);
        }
        d.feed("enum A{a;}");
        for (int n : new int[] {11, 12, 3000, 3001, Integer.MAX_VALUE, -1, -2, Integer.MIN_VALUE}) {
            d.due("cut(" + n + ") of ten", d.x.cut(n), BAD);
        }
        d.due("the tape stays", d.x.book(), 0);
        d.due("behind book()", d.x.cut(1), BAD);
        d.feed(" ".repeat(3000));
        d.due("cut(3001)", d.x.cut(3001), BAD);
        d.due("cut(3000)", d.x.cut(3000), 3000);
    }

    private static void book() {
        Desk d = Desk.on(4, "THE TAPE, which is empty then (not with FULL), is a BOOK: its number; -10 less the"
            + " place of its FAULT.");
        d.due("an empty text", d.x.book(), -10);
        d.told("enum A{a;}", 0);
        d.due("the tape is empty", d.x.cut(1), BAD);
        d.due("and is fed anew", d.x.feed('x', 1), 1);
        d.due("a FAULT at 0", d.x.book(), -10);
        d.due("the tape is empty", d.x.cut(1), BAD);
        d.fault("enum A{a;", 2, 9);
        d.fault(" ".repeat(2999) + "?", 1, 2999);
        d.fault(" ".repeat(3000), 2, 3000);
        // a text that has a FAULT takes no number
        d.told("enum B{b;}", 1);
        d.due("letter", d.x.letter(1, 0, -1, 0), 'B');
        d.due("letter", d.x.letter(0, 0, -1, 0), 'A');
        d.due("told(2, 0)", d.x.told(2, 0), NONE);
    }

    private static void bookFull() {
        Desk d = Desk.on(4, "FULL: there are 10.");
        for (int b = 0; b < 10; b++) {
            d.fault("enum A{a;", 2, 9);
            d.told("enum A{a(" + b + ");}", b);
        }
        d.due("an empty tape", d.x.book(), FULL);
        d.feed("enum A{a;}");
        d.due("a BOOK", d.x.book(), FULL);
        d.due("the tape stays", d.x.cut(10), 10);
        d.due("a text with a FAULT", d.x.feed('?', 1), 11);
        d.due("a text with a FAULT", d.x.book(), FULL);
        d.due("the tape stays", d.x.cut(11), 11);
        d.due("wrong() is the tenth's", d.x.wrong(), 0);
        d.due("told(10, 0)", d.x.told(10, 0), NONE);
        for (int b = 0; b < 10; b++) {
            d.gave("argument of BOOK " + b, d.x.argument(b, 0, 0), b);
        }
    }

    private static void bookStartsNothing() {
        Desk d = Desk.on(4, "Nothing starts.");
        d.told("enum A{a(a/0);table t=[1/0];check 0;holder h=h;}enum B{b(A.a);}", 0);
        d.starts(0);
        d.seen(0);
        for (int item : new int[] {0, 1, 100}) {
            d.due("state(0, " + item + ")", d.x.state(0, item), 0);
        }
        d.due("no FAILURE", d.x.cause(0, 0), NONE);
        d.due("use", d.x.use(0, 1), FAILED);
        d.told("enum A{a(1/0);}", 1);
        d.starts(1);
        d.causes(1, 1, 1, 0, 4, NONE);
        d.due("out()", d.x.out(), 0);
    }

    private static void wrong() {
        Desk d = Desk.on(5, "The FAULT of the latest text that book() read (0: none, or there was no text).");
        d.due("there was no text", d.x.wrong(), 0);
        d.feed("?");
        d.due("a text that was not read", d.x.wrong(), 0);
        d.due("book()", d.x.book(), -10);
        d.due("1", d.x.wrong(), 1);
        d.due("asked again", d.x.wrong(), 1);
        d.due("an empty text was read", d.x.book(), -10);
        d.due("2", d.x.wrong(), 2);
        d.fault("enum A{a,a;}", 3, 9);
        d.fault("enum A{a(x);}", 4, 9);
        d.fault("enum A{a;check 1;check 1;check 1;check 1;}", 5, 33);
        d.feed("enum A{a;}");
        d.due("5 until then", d.x.wrong(), 5);
        d.due("book()", d.x.book(), 0);
        d.due("0", d.x.wrong(), 0);
        d.fault("enum A{a;}}", 2, 10);
        d.feed("?");
        d.due("encode(0)", d.x.encode(0), -10);
        d.due("of book() alone", d.x.wrong(), 2);
        d.due("encode(0)", d.x.encode(1), NONE);
        for (int b = 1; b < 10; b++) {
            d.told("enum A{a;}", b);
        }
        d.feed("?");
        d.due("book()", d.x.book(), FULL);
        d.due("with FULL no text is read", d.x.wrong(), 0);
    }

    private static void told() {
        Desk d = Desk.on(6, "Of a BOOK: what 0 how many enums, 1 ACTS, 2 STARTS that began (not those that FAILED"
            + " with 6), 3 SEEN.");
        d.told(Desk.row(12, "", e -> "enum E" + e + "{a(" + (e < 11 ? "E" + (e + 1) + ".a" : "a+a+a+h")
            + ");holder h=1;act a" + e % 4 + "=1;}"), 0);
        d.told("enum A{a;}", 1);
        int[][] before = {{12, 4, 0, 0}, {1, 0, 0, 0}};
        for (int what = 0; what < 4; what++) {
            d.due("told(0, " + what + ")", d.x.told(0, what), before[0][what]);
            d.due("told(1, " + what + ")", d.x.told(1, what), before[1][what]);
        }
        d.due("the thirteenth FAILS with 6", d.x.use(0, 0), FAILED);
        d.due("CAUSE 12", d.x.cause(12, 0), 6);
        d.due("STARTS", d.x.told(0, 2), 12);
        d.due("SEEN", d.x.told(0, 3), 3);
        d.gave("it STARTS later", d.x.holder(0, 11, 0), 1);
        d.due("STARTS", d.x.told(0, 2), 13);
        d.due("of the other BOOK", d.x.told(1, 2), 0);
    }

    private static void toldNone() {
        Desk d = Desk.on(6, "NONE (another what, too).");
        d.told("enum A{a;act go=1;}", 0);
        d.told("enum A{a;}", 1);
        for (int what = 0; what < 4; what++) {
            int asked = what;
            d.none("told(b, " + what + ")", b -> d.x.told(b, asked), Desk.beside(2));
        }
        d.none("told(0, what)", what -> d.x.told(0, what), Desk.beside(4));
        d.none("told(1, what)", what -> d.x.told(1, what), Desk.beside(4));
        d.none("told(2, what)", what -> d.x.told(2, what), Desk.beside(4));
    }

    private static void about() {
        Desk d = Desk.on(7, "Of an enum: what 0 constants, 1 tables, 2 checks, 3 holders, 4 switches.");
        d.told("enum A{a;}enum B{a,b;check 1;table t=[1];holder h=1;table u=[1];check 1;check 1;holder i=1;"
            + "switch s{else:1;}table v=[1];holder j=1;holder k=1;table w=[1,2];switch r{else:1;}}", 0);
        int[][] due = {{1, 0, 0, 0, 0}, {2, 4, 3, 4, 2}};
        for (int e = 0; e < 2; e++) {
            for (int what = 0; what < 5; what++) {
                d.due("about(0, " + e + ", " + what + ")", d.x.about(0, e, what), due[e][what]);
            }
        }
        d.due("nothing is USED", d.x.told(0, 2), 0);
    }

    private static void aboutNone() {
        Desk d = Desk.on(7, "NONE.");
        d.told("enum A{a;}enum B{b;}", 0);
        for (int what = 0; what < 5; what++) {
            int asked = what;
            d.none("about(0, e, " + what + ")", e -> d.x.about(0, e, asked), Desk.beside(2));
            d.none("about(b, 0, " + what + ")", b -> d.x.about(b, 0, asked), Desk.beside(1));
        }
        d.none("about(0, 1, what)", what -> d.x.about(0, 1, what), Desk.beside(5));
    }

    private static void state() {
        Desk d = Desk.on(8, "0: the ITEM is ASLEEP, 1 WELL, 2 BAD.");
        d.told("enum A{a;holder h=1;holder i=1/0;}enum B{b;check 0;}", 0);
        int[] items = {0, 1, 100, 101};
        for (int item : items) {
            d.due("state(0, " + item + ")", d.x.state(0, item), 0);
        }
        d.x.use(0, 0);
        d.x.use(0, 1);
        d.x.holder(0, 0, 0);
        d.x.holder(0, 0, 1);
        int[] due = {1, 2, 1, 2};
        for (int k = 0; k < 4; k++) {
            d.due("state(0, " + items[k] + ")", d.x.state(0, items[k]), due[k]);
        }
        d.due("it USES nothing", d.x.told(0, 2), 4);
    }

    private static void stateNone() {
        Desk d = Desk.on(8, "NONE.");
        d.told("enum A{a;holder h=1;holder i=1/0;}enum B{b;check 0;}", 0);
        d.none("state(0, item)", item -> d.x.state(0, item), -1, -2, 2, 11, 12, 96, 99, 102, 103, 104, 105, 147, 148,
            Integer.MIN_VALUE, Integer.MAX_VALUE);
        d.none("state(b, 0)", b -> d.x.state(b, 0), Desk.beside(1));
        d.none("state(b, 100)", b -> d.x.state(b, 100), Desk.beside(1));
    }

    private static void letter() {
        Desk d = Desk.on(9, "Byte k of the NAME of a constant (i from 0 on), of the enum (i = -1).");
        d.told("enum zZ09azAZ19{a,abcdefghij,Z9;}enum B{b;}", 0);
        String[] names = {"zZ09azAZ19", "a", "abcdefghij", "Z9"};
        for (int i = -1; i < 3; i++) {
            for (int k = 0; k < names[i + 1].length(); k++) {
                d.due("letter(0, 0, " + i + ", " + k + ")", d.x.letter(0, 0, i, k), names[i + 1].charAt(k));
            }
        }
        d.due("letter(0, 1, -1, 0)", d.x.letter(0, 1, -1, 0), 'B');
        d.due("letter(0, 1, 0, 0)", d.x.letter(0, 1, 0, 0), 'b');
        d.due("nothing is USED", d.x.told(0, 2), 0);
    }

    private static void letterNone() {
        Desk d = Desk.on(9, "NONE.");
        d.told("enum zZ09azAZ19{a,abcdefghij,Z9;}enum B{b;}", 0);
        int[] lengths = {10, 1, 10, 2};
        for (int i = -1; i < 3; i++) {
            int asked = i;
            d.none("letter(0, 0, " + i + ", k)", k -> d.x.letter(0, 0, asked, k), Desk.beside(lengths[i + 1]));
        }
        d.none("letter(0, 0, i, 0)", i -> d.x.letter(0, 0, i, 0), -2, -3, Integer.MIN_VALUE, 3, 4, 24,
            Integer.MAX_VALUE);
        d.none("letter(0, e, -1, 0)", e -> d.x.letter(0, e, -1, 0), Desk.beside(2));
        d.none("letter(b, 0, -1, 0)", b -> d.x.letter(b, 0, -1, 0), Desk.beside(1));
    }

    private static void body() {
        Desk d = Desk.on(10, "Whether a constant has a body of its own for an act (i = -1: the enum): 1, 0.");
        d.told("enum A{a{act go=1;},b,c{act to=1;act on=1;};act on=1;}enum B{b;}", 0);
        int[][] due = {{0, 0, 1}, {1, 0, 0}, {0, 0, 0}, {0, 1, 1}};
        for (int i = -1; i < 3; i++) {
            for (int act = 0; act < 3; act++) {
                d.due("body(0, 0, " + i + ", " + act + ")", d.x.body(0, 0, i, act), due[i + 1][act]);
            }
        }
        d.due("an enum without bodies", d.x.body(0, 1, -1, 2), 0);
        d.due("its constant", d.x.body(0, 1, 0, 2), 0);
        d.due("nothing is USED", d.x.told(0, 2), 0);
    }

    private static void bodyNone() {
        Desk d = Desk.on(10, "NONE (an act that there is not, too).");
        d.told("enum A{a{act go=1;},b,c{act to=1;act on=1;};act on=1;}enum B{b;}", 0);
        for (int i = -1; i < 3; i++) {
            int asked = i;
            d.none("body(0, 0, " + i + ", act)", act -> d.x.body(0, 0, asked, act), Desk.beside(3));
        }
        d.none("body(0, 0, i, 0)", i -> d.x.body(0, 0, i, 0), -2, -3, Integer.MIN_VALUE, 3, 4, 24, Integer.MAX_VALUE);
        d.none("body(0, e, -1, 0)", e -> d.x.body(0, e, -1, 0), Desk.beside(2));
        d.none("body(b, 0, -1, 0)", b -> d.x.body(b, 0, -1, 0), Desk.beside(1));
        d.told("enum A{a;}", 1);
        d.none("body(1, 0, 0, act) of a BOOK without ACTS", act -> d.x.body(1, 0, 0, act), -1, 0, 1, 2, 3, 4);
        d.none("body(1, 0, -1, act) of a BOOK without ACTS", act -> d.x.body(1, 0, -1, act), -1, 0, 1, 2, 3, 4);
    }

    private static void use() {
        Desk d = Desk.on(11, "The enum is USED: 0.");
        d.told("enum A{a(5);}enum B{b(A.a);}", 0);
        d.due("it STARTS", d.x.use(0, 1), 0);
        d.starts(0, 1, 0);
        d.due("it is WELL", d.x.use(0, 1), 0);
        d.due("it is WELL by another one", d.x.use(0, 0), 0);
        d.starts(0, 1, 0);
        d.due("out() stays", d.x.out(), 0);
    }

    private static void useRefused() {
        Desk d = Desk.on(11, "NONE; FAILED.");
        d.told("enum A{a(5);}enum B{b;check 0;}enum C{c(B.b);}", 0);
        d.none("use(0, e)", e -> d.x.use(0, e), Desk.beside(3));
        d.none("use(b, 0)", b -> d.x.use(b, 0), Desk.beside(1));
        d.starts(0);
        d.due("use(0, 2)", d.x.use(0, 2), FAILED);
        d.causes(1, 2, 1, 1, 3, NONE);
        d.due("use(0, 1)", d.x.use(0, 1), FAILED);
        d.causes(2, 1);
        d.due("use(0, 0)", d.x.use(0, 0), 0);
        d.none("use(0, e)", e -> d.x.use(0, e), 3, 100);
        d.causes(2, 1);
        d.starts(0, 2, 1, 0);
    }

    private static void argument() {
        Desk d = Desk.on(12, "The ARGUMENT of a constant comes to out(): 0.");
        d.told("enum A{a(-5),b,c(1-1),d(65536*32768);}", 0);
        d.gave("a", d.x.argument(0, 0, 0), -5);
        d.gave("b has none", d.x.argument(0, 0, 1), 0);
        d.gave("d", d.x.argument(0, 0, 3), Integer.MIN_VALUE);
        d.gave("c", d.x.argument(0, 0, 2), 0);
        d.gave("a", d.x.argument(0, 0, 0), -5);
    }

    private static void argumentUses() {
        Desk d = Desk.on(12, "The enum is USED.");
        d.told("enum A{a,b(B.b);}enum B{b(7);}", 0);
        d.gave("of a constant without one", d.x.argument(0, 0, 0), 0);
        d.starts(0, 0, 1);
        d.gave("it is WELL", d.x.argument(0, 1, 0), 7);
        d.starts(0, 0, 1);
    }

    private static void argumentRefused() {
        Desk d = Desk.on(12, "NONE; FAILED.");
        d.told("enum A{a(-5),b,c;}enum B{b(3),c(1/0);}", 0);
        d.none("argument(0, 0, i)", i -> d.x.argument(0, 0, i), Desk.beside(3));
        d.none("argument(0, e, 0)", e -> d.x.argument(0, e, 0), Desk.beside(2));
        d.none("argument(b, 0, 0)", b -> d.x.argument(b, 0, 0), Desk.beside(1));
        d.starts(0);
        d.gave("a", d.x.argument(0, 0, 0), -5);
        d.due("a constant that was MADE", d.x.argument(0, 1, 0), FAILED);
        d.causes(1, 1, 4, NONE);
        d.due("again", d.x.argument(0, 1, 0), FAILED);
        d.causes(2, 1);
        d.due("NONE of a BAD one", d.x.argument(0, 1, 2), NONE);
        d.due("out() stays", d.x.out(), -5);
    }

    private static void act() {
        Desk d = Desk.on(13, "The enum is USED; what its body for an ACT gives of a constant (the constant's own, else"
            + " the enum's; FAILS with 5 without one) comes to out(): 0.");
        d.told("enum A{a(3){act go=100+ord;act to=7;},b(4);act go=value;}enum B{b;}", 0);
        d.gave("the constant's own", d.x.act(0, 0, 0, 0), 100);
        d.starts(0, 0);
        d.gave("the enum's", d.x.act(0, 0, 1, 0), 4);
        d.gave("the constant's own, the enum has none", d.x.act(0, 0, 0, 1), 7);
        d.due("neither", d.x.act(0, 0, 1, 1), FAILED);
        d.causes(5, NONE);
        d.due("out() stays", d.x.out(), 7);
        d.due("an enum without bodies", d.x.act(0, 1, 0, 0), FAILED);
        d.causes(5, NONE);
        d.starts(0, 0, 1);
        d.due("it is WELL", d.x.state(0, 1), 1);
    }

    private static void actRefused() {
        Desk d = Desk.on(13, "NONE; FAILED.");
        d.told("enum A{a,b;act go=1;act to=1/0;act on=1;}enum B{b;check 0;act go=1;}enum C{c;act on=B.b;}", 0);
        d.none("act(0, 0, i, 0)", i -> d.x.act(0, 0, i, 0), Desk.beside(2));
        d.none("act(0, 0, 0, act)", act -> d.x.act(0, 0, 0, act), Desk.beside(3));
        d.none("act(0, e, 0, 0)", e -> d.x.act(0, e, 0, 0), Desk.beside(3));
        d.none("act(b, 0, 0, 0)", b -> d.x.act(b, 0, 0, 0), Desk.beside(1));
        d.starts(0);
        d.gave("go", d.x.act(0, 0, 0, 0), 1);
        d.due("the body FAILS", d.x.act(0, 0, 0, 1), FAILED);
        d.causes(4, NONE);
        d.due("the enum FAILS", d.x.act(0, 1, 0, 0), FAILED);
        d.causes(1, 1, 3, NONE);
        d.due("the enum is BAD, ahead of the body that is missing", d.x.act(0, 1, 0, 1), FAILED);
        d.causes(2, 1);
        d.due("what the body reads is BAD", d.x.act(0, 2, 0, 2), FAILED);
        d.causes(2, 1);
        d.due("its enum stays WELL", d.x.state(0, 2), 1);
        d.due("out() stays", d.x.out(), 1);
        d.told("enum A{a;}", 1);
        d.none("act(1, 0, 0, act) of a BOOK without ACTS", act -> d.x.act(1, 0, 0, act), -1, 0, 1, 3, 4);
    }

    private static void entry() {
        Desk d = Desk.on(14, "The enum is USED; entry k of table t comes to out(): 0.");
        d.told("enum A{a;table t=[5];table u=[1,2,3,4,5,6,7,8,9,10,11,12*-1];}", 0);
        d.gave("the first", d.x.entry(0, 0, 0, 0), 5);
        d.starts(0, 0);
        for (int k = 0; k < 11; k++) {
            d.gave("entry(0, 0, 1, " + k + ")", d.x.entry(0, 0, 1, k), k + 1);
        }
        d.gave("the last", d.x.entry(0, 0, 1, 11), -12);
        d.told("enum A{a;" + Desk.row(4, "", t -> "table t" + t + "=[" + t + "];") + "}", 1);
        d.gave("the last table", d.x.entry(1, 0, 3, 0), 3);
    }

    private static void entryRefused() {
        Desk d = Desk.on(14, "NONE; FAILED.");
        d.told("enum A{a;table t=[5];table u=[1,2,3,4,5,6,7,8,9,10,11,12];}enum B{b;table t=[1];check 0;}"
            + "enum C{c;}", 0);
        d.none("entry(0, 0, t, 0)", t -> d.x.entry(0, 0, t, 0), Desk.beside(2));
        d.none("entry(0, 0, 0, k)", k -> d.x.entry(0, 0, 0, k), Desk.beside(1));
        d.none("entry(0, 0, 1, k)", k -> d.x.entry(0, 0, 1, k), Desk.beside(12));
        d.none("entry(0, 2, t, 0)", t -> d.x.entry(0, 2, t, 0), Desk.beside(0));
        d.none("entry(0, e, 0, 0)", e -> d.x.entry(0, e, 0, 0), Desk.beside(3));
        d.none("entry(b, 0, 0, 0)", b -> d.x.entry(b, 0, 0, 0), Desk.beside(1));
        d.starts(0);
        d.gave("u[11]", d.x.entry(0, 0, 1, 11), 12);
        d.due("the enum FAILS", d.x.entry(0, 1, 0, 0), FAILED);
        d.causes(1, 1, 3, NONE);
        d.due("the enum is BAD", d.x.entry(0, 1, 0, 0), FAILED);
        d.causes(2, 1);
        d.due("NONE of a BAD one", d.x.entry(0, 1, 0, 1), NONE);
        d.due("out() stays", d.x.out(), 12);
        d.told("enum A{a;" + Desk.row(4, "", t -> "table t" + t + "=[" + t + "];") + "}", 1);
        d.none("entry(1, 0, t, 0)", t -> d.x.entry(1, 0, t, 0), Desk.beside(4));
    }

    private static void holder() {
        Desk d = Desk.on(15, "Holder h is USED (its enum is not, by that); its VALUE comes to out(): 0.");
        d.told("enum A{a;check 0;holder h=8;holder i=a;holder j=0;holder k=-9;}", 0);
        d.gave("the last", d.x.holder(0, 0, 3), -9);
        d.starts(0, 103);
        d.gave("the third", d.x.holder(0, 0, 2), 0);
        d.gave("the first", d.x.holder(0, 0, 0), 8);
        d.due("the enum is ASLEEP", d.x.state(0, 0), 0);
        d.due("use of the enum", d.x.use(0, 0), FAILED);
        d.gave("a holder of a BAD enum is not BAD by that", d.x.holder(0, 0, 0), 8);
        d.starts(0, 103, 102, 100, 0);
    }

    private static void holderRefused() {
        Desk d = Desk.on(15, "NONE; FAILED.");
        d.told("enum A{a;check 0;holder h=8;holder i=a;holder j=0;holder k=-9;}enum B{b;}", 0);
        d.none("holder(0, 0, h)", h -> d.x.holder(0, 0, h), Desk.beside(4));
        d.none("holder(0, 1, h)", h -> d.x.holder(0, 1, h), Desk.beside(0));
        d.none("holder(0, e, 0)", e -> d.x.holder(0, e, 0), Desk.beside(2));
        d.none("holder(b, 0, 0)", b -> d.x.holder(b, 0, 0), Desk.beside(1));
        d.starts(0);
        d.gave("the first", d.x.holder(0, 0, 0), 8);
        d.due("the second reads its enum, which FAILS", d.x.holder(0, 0, 1), FAILED);
        d.causes(1, 101, 1, 0, 3, NONE);
        d.due("it is BAD", d.x.holder(0, 0, 1), FAILED);
        d.causes(2, 101);
        d.starts(0, 100, 101, 0);
        d.due("out() stays", d.x.out(), 8);
    }

    private static void branch() {
        Desk d = Desk.on(16, "The enum is USED; switch s: the expr of the case whose NAME is the constant's, else that"
            + " of else, is worked out, and comes to out(): 0.");
        d.told("enum A{a,b,c;switch s{case c:B.b+30;case a:C.h+10;else:20;}switch r{else:size*7;}"
            + "switch q{case a:1;case b:1/0;else:1/0;}}enum B{b;}enum C{c;holder h=1;}", 0);
        d.gave("no case of its own", d.x.branch(0, 0, 0, 1), 20);
        d.starts(0, 0);
        d.gave("the second case", d.x.branch(0, 0, 0, 0), 11);
        d.starts(0, 0, 108);
        d.gave("the first case", d.x.branch(0, 0, 0, 2), 30);
        d.starts(0, 0, 108, 1);
        for (int i = 0; i < 3; i++) {
            d.gave("no cases", d.x.branch(0, 0, 1, i), 21);
        }
        d.gave("the others are not worked out", d.x.branch(0, 0, 2, 0), 1);
        d.told("enum A{" + Desk.row(24, ",", i -> "c" + i) + ";switch s{"
            + Desk.row(12, "", k -> "case c" + (23 - 2 * k) + ":" + k + ";") + "else:99;}}", 1);
        for (int i = 0; i < 24; i++) {
            d.gave("one of twelve cases, or none", d.x.branch(1, 0, 0, i), i % 2 == 0 ? 99 : (23 - i) / 2);
        }
    }

    private static void branchRefused() {
        Desk d = Desk.on(16, "NONE; FAILED.");
        d.told("enum A{a,b,c;switch s{else:5;}switch r{case b:1/0;case c:B.b;else:4;}switch q{else:1;}}"
            + "enum B{b;check 0;switch s{case b:1;else:2;}}enum C{c;}", 0);
        d.none("branch(0, 0, s, 0)", s -> d.x.branch(0, 0, s, 0), Desk.beside(3));
        d.none("branch(0, 0, 0, i)", i -> d.x.branch(0, 0, 0, i), Desk.beside(3));
        d.none("branch(0, 2, s, 0)", s -> d.x.branch(0, 2, s, 0), Desk.beside(0));
        d.none("branch(0, e, 0, 0)", e -> d.x.branch(0, e, 0, 0), Desk.beside(3));
        d.none("branch(b, 0, 0, 0)", b -> d.x.branch(b, 0, 0, 0), Desk.beside(1));
        d.starts(0);
        d.gave("s", d.x.branch(0, 0, 0, 1), 5);
        d.due("its expr FAILS", d.x.branch(0, 0, 1, 1), FAILED);
        d.causes(4, NONE);
        d.due("what its expr reads FAILS", d.x.branch(0, 0, 1, 2), FAILED);
        d.causes(1, 1, 3, NONE);
        d.due("its enum is BAD", d.x.branch(0, 1, 0, 0), FAILED);
        d.causes(2, 1);
        d.due("out() stays", d.x.out(), 5);
        d.due("A stays WELL", d.x.state(0, 0), 1);
    }

    private static void out() {
        Desk d = Desk.on(17, "What the latest of these acts that answered 0 gave; 0: there was none.");
        d.due("there was none", d.x.out(), 0);
        d.told("enum A{a(1);act go=2;table t=[3];holder h=4;holder i=1/0;switch s{else:5;}}", 0);
        d.due("there was none", d.x.out(), 0);
        d.due("holder FAILED", d.x.holder(0, 0, 1), FAILED);
        d.due("there was none", d.x.out(), 0);
        d.gave("argument", d.x.argument(0, 0, 0), 1);
        d.gave("act", d.x.act(0, 0, 0, 0), 2);
        d.gave("entry", d.x.entry(0, 0, 0, 0), 3);
        d.gave("holder", d.x.holder(0, 0, 0), 4);
        d.gave("branch", d.x.branch(0, 0, 0, 0), 5);
        d.due("asked again", d.x.out(), 5);
        int[] others = {d.x.use(0, 0), d.x.set(0, 0), d.x.add(0, 0), d.x.member(0, -1), d.x.map(0, 0),
            d.x.put(0, 0, 9), d.x.cut(0), d.x.wrong(), d.x.told(0, 0), d.x.holder(0, 0, 1), d.x.holder(0, 0, 2),
            d.x.argument(0, 0, 1), d.x.feed('a', 1), d.x.encode(0), d.x.signal(0, 0, 2), d.x.decode(0),
            d.x.state(0, 0)};
        int[] due = {0, 0, 1, 1, 0, 1, 0, 0, 1, FAILED, NONE, NONE, 1, 0, 0, 1, 1};
        for (int k = 0; k < others.length; k++) {
            d.due("call " + k, others[k], due[k]);
        }
        d.due("out() stays", d.x.out(), 5);
    }

    private static void cause() {
        Desk d = Desk.on(18, "CAUSE i, from 0 on, of the latest FAILURE: what 0: 1 to 6, 1: the ITEM BY which it is"
            + " (1, 2; else NONE).");
        d.told("enum A{a{act go=1/0;},b{act go=above;};act to=B.b;}enum B{b(C.h);}enum C{c;check 0;holder h=C.c;}", 0);
        d.due("go of a", d.x.act(0, 0, 0, 0), FAILED);
        d.causes(4, NONE);
        d.due("to of a", d.x.act(0, 0, 0, 1), FAILED);
        d.causes(1, 1, 1, 108, 1, 2, 3, NONE);
        d.due("to of b", d.x.act(0, 0, 1, 1), FAILED);
        d.causes(2, 1);
        d.due("go of b", d.x.act(0, 0, 1, 0), FAILED);
        d.causes(5, NONE);
        d.told(Desk.row(12, "", e -> "enum E" + e + "{a(" + (e < 11 ? "E" + (e + 1) + ".a" : "h")
            + ");holder h=1;}"), 1);
        d.due("thirteen", d.x.use(1, 0), FAILED);
        d.causes(1, 0, 1, 1, 1, 2, 1, 3, 1, 4, 1, 5, 1, 6, 1, 7, 1, 8, 1, 9, 1, 10, 1, 11, 6, NONE);
        d.gave("what goes well is no FAILURE", d.x.holder(1, 11, 0), 1);
        d.due("NONE is no FAILURE", d.x.holder(1, 11, 1), NONE);
        d.due("CAUSE 12 of the latest one", d.x.cause(12, 0), 6);
        d.due("of another BOOK", d.x.use(0, 2), FAILED);
        d.causes(2, 2);
    }

    private static void causeNone() {
        Desk d = Desk.on(18, "NONE: there is none such, another what.");
        for (int what = 0; what < 2; what++) {
            int asked = what;
            d.none("cause(i, " + what + ") ahead of a FAILURE", i -> d.x.cause(i, asked), -1, 0, 1, Integer.MAX_VALUE);
        }
        d.told("enum A{a;check 0;}", 0);
        d.due("use", d.x.use(0, 0), FAILED);
        for (int what = 0; what < 2; what++) {
            int asked = what;
            d.none("cause(i, " + what + ")", i -> d.x.cause(i, asked), Desk.beside(2));
        }
        d.none("cause(0, what)", what -> d.x.cause(0, what), Desk.beside(2));
        d.none("cause(1, what)", what -> d.x.cause(1, what), Desk.beside(2));
        d.due("use", d.x.use(0, 0), FAILED);
        d.due("what an earlier one had more is gone", d.x.cause(1, 0), NONE);
    }

    private static void start() {
        Desk d = Desk.on(19, "START i of a BOOK, as they began: its ITEM.");
        d.told("enum A{a(B.b),b(C.h);}enum B{b(C.h);check 1;}enum C{c(1/0);holder h=D.d;}enum D{d;}", 0);
        d.due("use", d.x.use(0, 0), 0);
        d.starts(0, 0, 1, 108, 3);
        d.due("use", d.x.use(0, 2), FAILED);
        d.due("use", d.x.use(0, 2), FAILED);
        d.starts(0, 0, 1, 108, 3, 2);
    }

    private static void startNone() {
        Desk d = Desk.on(19, "NONE.");
        d.told("enum A{a(B.b);}enum B{b;}", 0);
        d.none("start(0, i) ahead of all", i -> d.x.start(0, i), Desk.beside(0));
        d.due("use", d.x.use(0, 0), 0);
        d.none("start(0, i)", i -> d.x.start(0, i), Desk.beside(2));
        d.none("start(b, 0)", b -> d.x.start(b, 0), Desk.beside(1));
        d.told("enum A{a;}", 1);
        d.none("start(1, i)", i -> d.x.start(1, i), Desk.beside(0));
        // all that can be
        d.told(Desk.row(12, "", e -> "enum E" + e + "{a;" + Desk.row(4, "", h -> "holder h" + h + "=a;") + "}"), 2);
        for (int k = 0; k < 48; k++) {
            d.gave("holder", d.x.holder(2, k / 4, k % 4), 0);
        }
        d.due("the last", d.x.start(2, 59), 147);
        d.none("start(2, i)", i -> d.x.start(2, i), Desk.beside(60));
    }

    private static void seen() {
        Desk d = Desk.on(20, "SEEN i of a BOOK, from 0 on: what 0 the ITEM UNDER WAY, 1 the ITEM that was read.");
        d.told("enum A{a(B.h);}enum B{b;holder h=A.a+B.h;}", 0);
        d.gave("h", d.x.argument(0, 0, 0), -1);
        d.seen(0, 104, 0, 104, 104);
        d.told("enum A{a(a);}", 1);
        d.seen(1);
        d.due("use", d.x.use(1, 0), 0);
        d.seen(1, 0, 0);
        d.seen(0, 104, 0, 104, 104);
    }

    private static void seenNone() {
        Desk d = Desk.on(20, "NONE.");
        d.told("enum A{a(B.h);}enum B{b;holder h=A.a+B.h;}", 0);
        d.none("seen(0, i, 0) ahead of all", i -> d.x.seen(0, i, 0), Desk.beside(0));
        d.gave("h", d.x.argument(0, 0, 0), -1);
        d.none("seen(0, i, 0)", i -> d.x.seen(0, i, 0), Desk.beside(2));
        d.none("seen(0, i, 1)", i -> d.x.seen(0, i, 1), Desk.beside(2));
        d.none("seen(0, 0, what)", what -> d.x.seen(0, 0, what), Desk.beside(2));
        d.none("seen(b, 0, 0)", b -> d.x.seen(b, 0, 0), Desk.beside(1));
        d.told("enum A{a(a);}", 1);
        d.none("seen(1, i, 0)", i -> d.x.seen(1, i, 0), Desk.beside(0));
    }
}
