/** Promises 21 to 28: set, add, take, join, member, map, put, get. */
public final class SetsAndMapsTest {
    private static final int NONE = SignalBook.NONE, FULL = SignalBook.FULL, FAILED = SignalBook.FAILED,
        BAD = SignalBook.BAD;
    private static final String TEXT = "enum A{a,b,c,d,e;}enum B{a,b;}enum C{c;check 0;}";

    public static void main(String[] args) {
        sets();
        joins();
        fullSets();
        maps();
        fullMaps();
        allConstants();
        Desk.end();
    }

    private static void members(Desk d, int set, int... due) {
        d.due("member(" + set + ", -1)", d.x.member(set, -1), due.length);
        for (int k = 0; k < due.length; k++) {
            d.due("member(" + set + ", " + k + ")", d.x.member(set, k), due[k]);
        }
        d.due("member(" + set + ") behind the last", d.x.member(set, due.length), NONE);
        d.due("member(" + set + ", -2)", d.x.member(set, -2), NONE);
        d.due("member(" + set + ", MIN)", d.x.member(set, Integer.MIN_VALUE), NONE);
        d.due("member(" + set + ", MAX)", d.x.member(set, Integer.MAX_VALUE), NONE);
    }

    private static void sets() {
        Desk d = new Desk("sets");
        d.told(TEXT, 0);
        d.due("set(0, 3)", d.x.set(0, 3), NONE);
        d.due("set(0, -1)", d.x.set(0, -1), NONE);
        d.due("set(1, 0)", d.x.set(1, 0), NONE);
        d.due("set(0, 2)", d.x.set(0, 2), FAILED);
        d.causes(1, 2, 3, NONE);
        d.due("set(0, 0)", d.x.set(0, 0), 0);
        d.due("it is USED", d.x.state(0, 0), 1);
        members(d, 0);
        d.due("add(0, 3)", d.x.add(0, 3), 1);
        d.due("add(0, 3)", d.x.add(0, 3), 0);
        d.due("add(0, 0)", d.x.add(0, 0), 1);
        d.due("add(0, 5)", d.x.add(0, 5), NONE);
        d.due("add(0, -1)", d.x.add(0, -1), NONE);
        d.due("add(0, 32)", d.x.add(0, 32), NONE);
        d.due("add(1, 0)", d.x.add(1, 0), NONE);
        d.due("add(-1, 0)", d.x.add(-1, 0), NONE);
        members(d, 0, 0, 3);
        d.due("take(0, 1)", d.x.take(0, 1), 0);
        d.due("take(0, 0)", d.x.take(0, 0), 1);
        d.due("take(0, 0)", d.x.take(0, 0), 0);
        d.due("take(0, 5)", d.x.take(0, 5), NONE);
        d.due("take(0, -1)", d.x.take(0, -1), NONE);
        d.due("take(1, 0)", d.x.take(1, 0), NONE);
        members(d, 0, 3);
        d.due("member(1, -1)", d.x.member(1, -1), NONE);
        d.due("member(-1, -1)", d.x.member(-1, -1), NONE);
        d.due("set(0, 1)", d.x.set(0, 1), 1);
        d.due("add(1, 2)", d.x.add(1, 2), NONE);
        d.due("add(1, 1)", d.x.add(1, 1), 1);
        members(d, 1, 1);
        members(d, 0, 3);
    }

    private static void joins() {
        Desk d = new Desk("joins");
        d.told(TEXT, 0);
        d.told(TEXT, 1);
        d.due("set", d.x.set(0, 0), 0);
        d.due("set", d.x.set(0, 0), 1);
        d.due("set", d.x.set(0, 1), 2);
        d.due("set", d.x.set(1, 0), 3);
        for (int i = 0; i < 3; i++) {
            d.x.add(0, i);
            d.x.add(1, i + 1);
        }
        d.due("join(0, 4, 0)", d.x.join(0, 4, 0), NONE);
        d.due("join(-1, 0, 9)", d.x.join(-1, 0, 9), NONE);
        d.due("join(0, 2, 0)", d.x.join(0, 2, 0), BAD);
        d.due("join(0, 3, 0)", d.x.join(0, 3, 0), BAD);
        d.due("join(0, 1, 4)", d.x.join(0, 1, 4), BAD);
        d.due("join(0, 1, -1)", d.x.join(0, 1, -1), BAD);
        d.due("join(0, 1, 0)", d.x.join(0, 1, 0), 4);
        d.due("join(0, 1, 1)", d.x.join(0, 1, 1), 5);
        d.due("join(0, 1, 2)", d.x.join(0, 1, 2), 6);
        d.due("join(0, 1, 3)", d.x.join(0, 1, 3), 7);
        d.due("join(0, 0, 3)", d.x.join(0, 0, 3), 8);
        members(d, 0, 0, 1, 2);
        members(d, 1, 1, 2, 3);
        members(d, 4, 0, 1, 2, 3);
        members(d, 5, 1, 2);
        members(d, 6, 0);
        members(d, 7, 0, 3);
        members(d, 8);
        d.due("a SET of its own", d.x.add(5, 4), 1);
        members(d, 0, 0, 1, 2);
        d.due("add(5, 5)", d.x.add(5, 5), NONE);
    }

    private static void fullSets() {
        Desk d = new Desk("full sets");
        d.told(TEXT, 0);
        for (int n = 0; n < 39; n++) {
            d.due("set", d.x.set(0, 0), n);
        }
        d.due("set of a BAD one", d.x.set(0, 2), FAILED);
        d.due("join", d.x.join(0, 1, 0), 39);
        d.due("set(0, 0)", d.x.set(0, 0), FULL);
        d.due("set(0, 1)", d.x.set(0, 1), FULL);
        d.due("FULL uses nothing", d.x.state(0, 1), 0);
        d.due("set of a BAD one", d.x.set(0, 2), FULL);
        d.due("set(0, 9)", d.x.set(0, 9), NONE);
        d.due("join(0, 1, 0)", d.x.join(0, 1, 0), FULL);
        d.due("join(0, 1, 4)", d.x.join(0, 1, 4), BAD);
        d.due("join(0, 40, 4)", d.x.join(0, 40, 4), NONE);
        d.due("add(39, 0)", d.x.add(39, 0), 1);
        d.due("add(40, 0)", d.x.add(40, 0), NONE);
        d.due("member(40, -1)", d.x.member(40, -1), NONE);
        d.due("map", d.x.map(0, 0), 0);
    }

    private static void maps() {
        Desk d = new Desk("maps");
        d.told(TEXT, 0);
        d.due("map(0, 3)", d.x.map(0, 3), NONE);
        d.due("map(1, 0)", d.x.map(1, 0), NONE);
        d.due("map(0, 2)", d.x.map(0, 2), FAILED);
        d.due("map(0, 1)", d.x.map(0, 1), 0);
        d.due("it is USED", d.x.state(0, 1), 1);
        d.due("get(0, 0)", d.x.get(0, 0), 0);
        d.due("put(0, 0, 7)", d.x.put(0, 0, 7), 1);
        d.due("out()", d.x.out(), 0);
        d.due("get(0, 0)", d.x.get(0, 0), 1);
        d.due("out()", d.x.out(), 7);
        d.due("put(0, 0, -5)", d.x.put(0, 0, -5), 0);
        d.due("put(0, 1, 0)", d.x.put(0, 1, 0), 1);
        d.due("put(0, 1, 0)", d.x.put(0, 1, 0), 0);
        d.due("get(0, 0)", d.x.get(0, 0), 1);
        d.due("out()", d.x.out(), -5);
        d.due("get(0, 1)", d.x.get(0, 1), 1);
        d.due("out()", d.x.out(), 0);
        d.due("get(0, 0)", d.x.get(0, 0), 1);
        d.due("map(0, 1)", d.x.map(0, 1), 1);
        d.due("get(1, 0)", d.x.get(1, 0), 0);
        d.due("out() stays", d.x.out(), -5);
        for (int wrong : new int[] {2, -1, 24, 32, Integer.MIN_VALUE}) {
            d.due("put(0, " + wrong + ")", d.x.put(0, wrong, 1), NONE);
            d.due("get(0, " + wrong + ")", d.x.get(0, wrong), NONE);
            d.due("put(" + wrong + ", 0)", d.x.put(wrong, 0, 1), NONE);
            d.due("get(" + wrong + ", 0)", d.x.get(wrong, 0), NONE);
        }
        d.due("out() stays", d.x.out(), -5);
        d.due("a MAP is no SET", d.x.member(0, -1), NONE);
    }

    private static void fullMaps() {
        Desk d = new Desk("full maps");
        d.told(TEXT, 0);
        for (int n = 0; n < 10; n++) {
            d.due("map", d.x.map(0, 0), n);
        }
        d.due("map(0, 0)", d.x.map(0, 0), FULL);
        d.due("map(0, 1)", d.x.map(0, 1), FULL);
        d.due("FULL uses nothing", d.x.state(0, 1), 0);
        d.due("map(0, 2)", d.x.map(0, 2), FULL);
        d.due("map(0, 3)", d.x.map(0, 3), NONE);
        d.due("put(9, 4, 1)", d.x.put(9, 4, 1), 1);
        d.due("put(10, 0, 1)", d.x.put(10, 0, 1), NONE);
        d.due("get(10, 0)", d.x.get(10, 0), NONE);
        d.due("set", d.x.set(0, 0), 0);
    }

    private static void allConstants() {
        Desk d = new Desk("all constants");
        StringBuilder text = new StringBuilder("enum A{c0");
        for (int i = 1; i < 24; i++) {
            text.append(",c").append(i);
        }
        d.told(text + ";}", 0);
        d.due("set", d.x.set(0, 0), 0);
        d.due("map", d.x.map(0, 0), 0);
        int[] all = new int[24];
        for (int i = 23; i >= 0; i--) {
            d.due("add", d.x.add(0, i), 1);
            d.due("put", d.x.put(0, i, -i), 1);
            all[i] = i;
        }
        d.due("add(0, 24)", d.x.add(0, 24), NONE);
        members(d, 0, all);
        d.due("get(0, 23)", d.x.get(0, 23), 1);
        d.due("out()", d.x.out(), -23);
    }
}
