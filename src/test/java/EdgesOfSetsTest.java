/** The sentences about SETS and MAPS (Promises 21 to 28), each at its edges. */
public final class EdgesOfSetsTest {
    private static final int NONE = SignalBook.NONE, FULL = SignalBook.FULL, FAILED = SignalBook.FAILED,
        BAD = SignalBook.BAD;
    private static final String ALL = "enum A{" + Desk.row(24, ",", i -> "c" + i) + ";}";
    private static final String TEXT = "enum A{a,b,c,d;}enum B{a,b;}enum C{c;check 0;}";

    public static void main(String[] args) {
        numbered();
        set();
        setRefused();
        add();
        addNone();
        take();
        takeNone();
        join();
        joinRefused();
        member();
        memberNone();
        map();
        mapRefused();
        put();
        putNone();
        get();
        getNone();
        Desk.end();
    }

    private static void members(Desk d, int set, int... due) {
        d.due("member(" + set + ", -1)", d.x.member(set, -1), due.length);
        for (int k = 0; k < due.length; k++) {
            d.due("member(" + set + ", " + k + ")", d.x.member(set, k), due[k]);
        }
        d.due("member(" + set + ", " + due.length + ")", d.x.member(set, due.length), NONE);
    }

    private static void numbered() {
        Desk d = Desk.on(0, "SETS of constants of one enum of one BOOK are numbered from 0 on, 40 at most; MAPS,"
            + " that have ints for some constants, 10 at most.");
        d.told(TEXT, 0);
        d.told("enum A{a;}", 1);
        for (int n = 0; n < 38; n += 2) {
            d.due("set(0, 0)", d.x.set(0, 0), n);
            d.due("set(1, 0)", d.x.set(1, 0), n + 1);
        }
        d.due("join", d.x.join(0, 2, 0), 38);
        d.due("the fortieth", d.x.set(0, 1), 39);
        d.due("one more", d.x.set(0, 1), FULL);
        d.due("one more", d.x.join(0, 2, 0), FULL);
        for (int n = 0; n < 10; n++) {
            d.due("map", d.x.map(n % 2, 0), n);
        }
        d.due("one more", d.x.map(0, 1), FULL);
        // each has its own constants, and its own enum's
        d.due("the last SET", d.x.add(39, 1), 1);
        d.due("its enum has two", d.x.add(39, 2), NONE);
        d.due("the other BOOK's enum has one", d.x.add(37, 1), NONE);
        d.due("the other BOOK's enum has one", d.x.add(37, 0), 1);
        d.due("the last MAP", d.x.put(9, 0, 5), 1);
        d.due("its enum has one", d.x.put(9, 1, 5), NONE);
        for (int n = 0; n < 37; n++) {
            d.due("the others are empty", d.x.member(n, -1), 0);
        }
        members(d, 39, 1);
        d.due("another MAP", d.x.get(8, 0), 0);
    }

    private static void set() {
        Desk d = Desk.on(21, "An empty SET of an enum, which is USED: its number.");
        d.told(TEXT, 0);
        d.due("set(0, 0)", d.x.set(0, 0), 0);
        d.starts(0, 0);
        members(d, 0);
        for (int n = 1; n < 40; n++) {
            d.x.add(n - 1, 1);
            d.due("set(0, " + n % 2 + ")", d.x.set(0, n % 2), n);
            d.due("it is empty", d.x.member(n, -1), 0);
        }
        d.starts(0, 0, 1);
    }

    private static void setRefused() {
        Desk d = Desk.on(21, "NONE; FULL; FAILED.");
        d.told(TEXT, 0);
        d.none("set(0, e)", e -> d.x.set(0, e), Desk.beside(3));
        d.none("set(b, 0)", b -> d.x.set(b, 0), Desk.beside(1));
        d.starts(0);
        d.due("set(0, 2)", d.x.set(0, 2), FAILED);
        d.causes(1, 2, 3, NONE);
        d.due("set(0, 2)", d.x.set(0, 2), FAILED);
        d.causes(2, 2);
        for (int n = 0; n < 40; n++) {
            d.due("set(0, 0)", d.x.set(0, 0), n);
        }
        d.due("FULL", d.x.set(0, 0), FULL);
        d.due("NONE is told ahead of FULL", d.x.set(0, 3), NONE);
        d.due("NONE is told ahead of FULL", d.x.set(1, 0), NONE);
        d.due("FULL is told ahead of FAILED", d.x.set(0, 2), FULL);
        d.due("FULL", d.x.set(0, 1), FULL);
        d.due("and then nothing is USED", d.x.state(0, 1), 0);
        d.none("add(set, 0)", set -> d.x.add(set, 0), Desk.beside(40));
        d.none("member(set, -1)", set -> d.x.member(set, -1), Desk.beside(40));
    }

    private static void add() {
        Desk d = Desk.on(22, "A constant comes into a SET: 1; 0: it was in it.");
        d.told(ALL, 0);
        d.due("set", d.x.set(0, 0), 0);
        for (int i = 23; i >= 0; i--) {
            d.due("add(0, " + i + ")", d.x.add(0, i), 1);
            d.due("add(0, " + i + ") again", d.x.add(0, i), 0);
            d.due("how many", d.x.member(0, -1), 24 - i);
        }
        d.due("take", d.x.take(0, 5), 1);
        d.due("it comes back", d.x.add(0, 5), 1);
        d.due("it was in it", d.x.add(0, 5), 0);
    }

    private static void addNone() {
        Desk d = Desk.on(22, "NONE.");
        d.told(ALL, 0);
        d.none("add(set, 0) ahead of all", set -> d.x.add(set, 0), -1, 0, 1);
        d.due("set", d.x.set(0, 0), 0);
        d.none("add(0, i)", i -> d.x.add(0, i), Desk.beside(24));
        d.none("add(0, i)", i -> d.x.add(0, i), 31, 32, 33, 63, 64, -31, -32);
        d.none("add(set, 0)", set -> d.x.add(set, 0), Desk.beside(1));
        d.due("nothing came into it", d.x.member(0, -1), 0);
    }

    private static void take() {
        Desk d = Desk.on(23, "A constant goes from a SET: 1; 0: it was not in it.");
        d.told(ALL, 0);
        d.due("set", d.x.set(0, 0), 0);
        for (int i = 0; i < 24; i++) {
            d.due("take(0, " + i + ") of none", d.x.take(0, i), 0);
            d.due("add(0, " + i + ")", d.x.add(0, i), 1);
        }
        for (int i = 0; i < 24; i++) {
            d.due("take(0, " + i + ")", d.x.take(0, i), 1);
            d.due("take(0, " + i + ") again", d.x.take(0, i), 0);
            d.due("how many", d.x.member(0, -1), 23 - i);
        }
    }

    private static void takeNone() {
        Desk d = Desk.on(23, "NONE.");
        d.told(ALL, 0);
        d.none("take(set, 0) ahead of all", set -> d.x.take(set, 0), -1, 0, 1);
        d.due("set", d.x.set(0, 0), 0);
        for (int i = 0; i < 24; i++) {
            d.x.add(0, i);
        }
        d.none("take(0, i)", i -> d.x.take(0, i), Desk.beside(24));
        d.none("take(0, i)", i -> d.x.take(0, i), 31, 32, 33, 63, 64, -31, -32);
        d.none("take(set, 0)", set -> d.x.take(set, 0), Desk.beside(1));
        d.due("nothing went from it", d.x.member(0, -1), 24);
    }

    private static void join() {
        Desk d = Desk.on(24, "A new SET: how 0 all that are in a or b, 1 in both, 2 in a alone, 3 in one of them"
            + " alone.");
        d.told(ALL, 0);
        d.due("set", d.x.set(0, 0), 0);
        d.due("set", d.x.set(0, 0), 1);
        d.due("set", d.x.set(0, 0), 2);
        for (int i : new int[] {0, 3, 12, 23}) {
            d.x.add(0, i);
        }
        for (int i : new int[] {0, 5, 12, 22}) {
            d.x.add(1, i);
        }
        int[][] due = {{0, 3, 5, 12, 22, 23}, {0, 12}, {3, 23}, {3, 5, 22, 23}};
        int[][] mirrored = {{0, 3, 5, 12, 22, 23}, {0, 12}, {5, 22}, {3, 5, 22, 23}};
        int[][] alike = {{0, 3, 12, 23}, {0, 3, 12, 23}, {}, {}};
        int[][] withNone = {{0, 3, 12, 23}, {}, {0, 3, 12, 23}, {0, 3, 12, 23}};
        int[][] ofNone = {{0, 3, 12, 23}, {}, {}, {0, 3, 12, 23}};
        int n = 3;
        for (int how = 0; how < 4; how++) {
            d.due("join(0, 1, " + how + ")", d.x.join(0, 1, how), n);
            members(d, n++, due[how]);
            d.due("join(1, 0, " + how + ")", d.x.join(1, 0, how), n);
            members(d, n++, mirrored[how]);
            d.due("join(0, 0, " + how + ")", d.x.join(0, 0, how), n);
            members(d, n++, alike[how]);
            d.due("join(0, 2, " + how + ")", d.x.join(0, 2, how), n);
            members(d, n++, withNone[how]);
            d.due("join(2, 0, " + how + ")", d.x.join(2, 0, how), n);
            members(d, n++, ofNone[how]);
        }
        // it is a SET of its own, and they stay
        d.due("add", d.x.add(3, 1), 1);
        d.due("take", d.x.take(0, 0), 1);
        members(d, 0, 3, 12, 23);
        members(d, 1, 0, 5, 12, 22);
        members(d, 3, 0, 1, 3, 5, 12, 22, 23);
        d.due("a join of joins", d.x.join(3, n - 1, 1), n);
        members(d, n, 0, 3, 12, 23);
        d.due("take from it", d.x.take(n, 24), NONE);
    }

    private static void joinRefused() {
        Desk d = Desk.on(24, "NONE; BAD: they are not of one enum of one BOOK; another how; FULL.");
        d.told(TEXT, 0);
        d.told(TEXT, 1);
        d.none("join(a, a, 0) ahead of all", a -> d.x.join(a, a, 0), -1, 0, 1);
        d.due("set", d.x.set(0, 0), 0);
        d.due("set", d.x.set(0, 1), 1);
        d.due("set", d.x.set(1, 0), 2);
        d.due("set", d.x.set(0, 0), 3);
        d.none("join(a, 0, 0)", a -> d.x.join(a, 0, 0), Desk.beside(4));
        d.none("join(0, b, 0)", b -> d.x.join(0, b, 0), Desk.beside(4));
        d.none("NONE is told ahead of BAD", b -> d.x.join(0, b, 4), Desk.beside(4));
        for (int how = -1; how < 5; how++) {
            d.due("of two enums", d.x.join(0, 1, how), BAD);
            d.due("of two BOOKS", d.x.join(0, 2, how), BAD);
            d.due("of two BOOKS", d.x.join(2, 3, how), BAD);
        }
        for (int how : Desk.beside(4)) {
            d.due("join(0, 3, " + how + ")", d.x.join(0, 3, how), BAD);
        }
        d.due("none of these took a number", d.x.set(0, 0), 4);
        for (int n = 5; n < 40; n++) {
            d.due("join", d.x.join(0, 3, n % 4), n);
        }
        d.due("FULL", d.x.join(0, 3, 0), FULL);
        d.due("BAD is told ahead of FULL", d.x.join(0, 1, 0), BAD);
        d.due("BAD is told ahead of FULL", d.x.join(0, 3, 4), BAD);
        d.due("NONE is told ahead of FULL", d.x.join(0, 40, 0), NONE);
        d.due("SET 39", d.x.member(39, -1), 0);
    }

    private static void member() {
        Desk d = Desk.on(25, "The k-th constant, by ORDINALS, from 0 on, in a SET; k = -1: how many there are.");
        d.told(ALL, 0);
        d.due("set", d.x.set(0, 0), 0);
        d.due("none", d.x.member(0, -1), 0);
        int[] order = {17, 0, 23, 9, 8};
        int[][] due = {{17}, {0, 17}, {0, 17, 23}, {0, 9, 17, 23}, {0, 8, 9, 17, 23}};
        for (int n = 0; n < order.length; n++) {
            d.due("add", d.x.add(0, order[n]), 1);
            members(d, 0, due[n]);
        }
        for (int i = 0; i < 24; i++) {
            d.x.add(0, i);
        }
        for (int k = 0; k < 24; k++) {
            d.due("member(0, " + k + ")", d.x.member(0, k), k);
        }
        d.due("all", d.x.member(0, -1), 24);
    }

    private static void memberNone() {
        Desk d = Desk.on(25, "NONE.");
        d.told(ALL, 0);
        d.none("member(set, -1) ahead of all", set -> d.x.member(set, -1), -1, 0, 1);
        d.due("set", d.x.set(0, 0), 0);
        d.none("member(0, k) of none", k -> d.x.member(0, k), 0, 1, 23, 24, Integer.MAX_VALUE, -2, Integer.MIN_VALUE);
        for (int n = 1; n <= 24; n++) {
            d.due("add", d.x.add(0, 24 - n), 1);
            d.none("member(0, k)", k -> d.x.member(0, k), n, n + 1, 24, 32, Integer.MAX_VALUE, -2, -3,
                Integer.MIN_VALUE);
        }
        d.none("member(set, -1)", set -> d.x.member(set, -1), Desk.beside(1));
        d.none("member(set, 0)", set -> d.x.member(set, 0), Desk.beside(1));
    }

    private static void map() {
        Desk d = Desk.on(26, "An empty MAP of an enum, which is USED: its number.");
        d.told(TEXT, 0);
        d.due("map(0, 0)", d.x.map(0, 0), 0);
        d.starts(0, 0);
        for (int n = 1; n < 10; n++) {
            d.x.put(n - 1, 1, n);
            d.due("map(0, " + n % 2 + ")", d.x.map(0, n % 2), n);
            for (int i = 0; i < 2; i++) {
                d.due("it is empty", d.x.get(n, i), 0);
            }
        }
        d.starts(0, 0, 1);
    }

    private static void mapRefused() {
        Desk d = Desk.on(26, "NONE; FULL; FAILED.");
        d.told(TEXT, 0);
        d.none("map(0, e)", e -> d.x.map(0, e), Desk.beside(3));
        d.none("map(b, 0)", b -> d.x.map(b, 0), Desk.beside(1));
        d.starts(0);
        d.due("map(0, 2)", d.x.map(0, 2), FAILED);
        d.causes(1, 2, 3, NONE);
        d.due("map(0, 2)", d.x.map(0, 2), FAILED);
        d.causes(2, 2);
        for (int n = 0; n < 10; n++) {
            d.due("map(0, 0)", d.x.map(0, 0), n);
        }
        d.due("FULL", d.x.map(0, 0), FULL);
        d.due("NONE is told ahead of FULL", d.x.map(0, 3), NONE);
        d.due("NONE is told ahead of FULL", d.x.map(1, 0), NONE);
        d.due("FULL is told ahead of FAILED", d.x.map(0, 2), FULL);
        d.due("FULL", d.x.map(0, 1), FULL);
        d.due("and then nothing is USED", d.x.state(0, 1), 0);
        d.none("put(map, 0, 1)", map -> d.x.put(map, 0, 1), Desk.beside(10));
        d.none("get(map, 0)", map -> d.x.get(map, 0), Desk.beside(10));
    }

    private static void put() {
        Desk d = Desk.on(27, "A constant has v in a MAP: 1 if it had none before, else 0.");
        d.told(ALL, 0);
        d.due("map", d.x.map(0, 0), 0);
        int[] values = {0, -1, 1, Integer.MAX_VALUE, Integer.MIN_VALUE};
        for (int i = 0; i < 24; i++) {
            d.due("put(0, " + i + ")", d.x.put(0, i, values[i % 5]), 1);
        }
        for (int i = 0; i < 24; i++) {
            d.due("get(0, " + i + ")", d.x.get(0, i), 1);
            d.due("out()", d.x.out(), values[i % 5]);
            d.due("put(0, " + i + ") again", d.x.put(0, i, i == 3 ? values[3] : i), 0);
        }
        d.due("out() is not put()'s", d.x.out(), values[3]);
        for (int i = 0; i < 24; i++) {
            d.due("get(0, " + i + ")", d.x.get(0, i), 1);
            d.due("out()", d.x.out(), i == 3 ? values[3] : i);
        }
    }

    private static void putNone() {
        Desk d = Desk.on(27, "NONE.");
        d.told(ALL, 0);
        d.none("put(map, 0, 1) ahead of all", map -> d.x.put(map, 0, 1), -1, 0, 1);
        d.due("map", d.x.map(0, 0), 0);
        d.none("put(0, i, 1)", i -> d.x.put(0, i, 1), Desk.beside(24));
        d.none("put(map, 0, 1)", map -> d.x.put(map, 0, 1), Desk.beside(1));
        for (int i = 0; i < 24; i++) {
            d.due("it has none", d.x.get(0, i), 0);
        }
    }

    private static void get() {
        Desk d = Desk.on(28, "What a constant has in a MAP comes to out(): 1; 0 (out() stays): it has none.");
        d.told(TEXT, 0);
        d.due("map", d.x.map(0, 0), 0);
        d.due("map", d.x.map(0, 1), 1);
        d.due("get(0, 3) has none", d.x.get(0, 3), 0);
        d.due("out()", d.x.out(), 0);
        d.due("put", d.x.put(0, 3, -7), 1);
        d.due("get(0, 3)", d.x.get(0, 3), 1);
        d.due("out()", d.x.out(), -7);
        d.due("get(0, 2) has none", d.x.get(0, 2), 0);
        d.due("out() stays", d.x.out(), -7);
        d.due("put 0", d.x.put(0, 2, 0), 1);
        d.due("a 0 is not none", d.x.get(0, 2), 1);
        d.due("out()", d.x.out(), 0);
        d.due("get(0, 3)", d.x.get(0, 3), 1);
        d.due("MAP 1 has none", d.x.get(1, 0), 0);
        d.due("out() stays", d.x.out(), -7);
    }

    private static void getNone() {
        Desk d = Desk.on(28, "NONE.");
        d.told(TEXT, 0);
        d.none("get(map, 0) ahead of all", map -> d.x.get(map, 0), -1, 0, 1);
        d.due("a SET is no MAP", d.x.set(0, 0), 0);
        d.none("get(map, 0) ahead of all", map -> d.x.get(map, 0), -1, 0, 1);
        d.due("map", d.x.map(0, 0), 0);
        d.due("map", d.x.map(0, 1), 1);
        d.due("put", d.x.put(0, 3, -7), 1);
        d.due("get(0, 3)", d.x.get(0, 3), 1);
        d.none("get(0, i)", i -> d.x.get(0, i), Desk.beside(4));
        d.none("get(1, i)", i -> d.x.get(1, i), Desk.beside(2));
        d.none("get(map, 0)", map -> d.x.get(map, 0), Desk.beside(2));
        d.due("out() stays", d.x.out(), -7);
    }
}
