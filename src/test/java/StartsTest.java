/** Promises 8, 11 to 20: state, use, argument, act, entry, holder, branch, out, cause, start, seen. */
public final class StartsTest {
    private static final int NONE = SignalBook.NONE, FAILED = SignalBook.FAILED;

    public static void main(String[] args) {
        states();
        arguments();
        numbers();
        acts();
        entries();
        holders();
        branches();
        order();
        rings();
        tablesMeanwhile();
        failures();
        failedIndexes();
        twelveUnderWay();
        deepExprs();
        editions();
        outStays();
        Desk.end();
    }

    private static void states() {
        Desk d = new Desk("states");
        d.told("enum A{a;check 0;}enum B{b;holder h=1;holder k=A.a;}", 0);
        d.due("state(0, 0)", d.x.state(0, 0), 0);
        d.due("use(0, 0)", d.x.use(0, 0), FAILED);
        d.due("use(0, 1)", d.x.use(0, 1), 0);
        d.due("use(0, 2)", d.x.use(0, 2), NONE);
        d.due("use(0, -1)", d.x.use(0, -1), NONE);
        d.due("use(1, 0)", d.x.use(1, 0), NONE);
        d.due("holder", d.x.holder(0, 1, 1), FAILED);
        int[][] due = {{0, 2}, {1, 1}, {2, NONE}, {-1, NONE}, {11, NONE}, {12, NONE}, {99, NONE}, {100, NONE},
            {103, NONE}, {104, 0}, {105, 2}, {106, NONE}, {107, NONE}, {108, NONE}, {147, NONE}, {148, NONE},
            {Integer.MAX_VALUE, NONE}, {Integer.MIN_VALUE, NONE}};
        for (int[] pair : due) {
            d.due("state(0, " + pair[0] + ")", d.x.state(0, pair[0]), pair[1]);
        }
        d.due("state(1, 0)", d.x.state(1, 0), NONE);
        d.due("state(-1, 0)", d.x.state(-1, 0), NONE);
        d.gave("holder", d.x.holder(0, 1, 0), 1);
        d.due("state(0, 104)", d.x.state(0, 104), 1);
        d.starts(0, 0, 1, 105, 104);
        d.due("start(0, -1)", d.x.start(0, -1), NONE);
        d.due("start(1, 0)", d.x.start(1, 0), NONE);
    }

    private static void arguments() {
        Desk d = new Desk("arguments");
        d.told("enum A{a(5),b,c(ord*10+size),d(b+a+c);}", 0);
        d.gave("a", d.x.argument(0, 0, 0), 5);
        d.gave("b", d.x.argument(0, 0, 1), 0);
        d.gave("c", d.x.argument(0, 0, 2), 24);
        d.gave("d", d.x.argument(0, 0, 3), 3);
        d.due("argument(0, 0, 4)", d.x.argument(0, 0, 4), NONE);
        d.due("argument(0, 0, -1)", d.x.argument(0, 0, -1), NONE);
        d.due("argument(0, 1, 0)", d.x.argument(0, 1, 0), NONE);
        d.due("argument(1, 0, 0)", d.x.argument(1, 0, 0), NONE);
        d.due("out()", d.x.out(), 3);
        d.starts(0, 0);
        d.told("enum A{a;}", 1);
        d.due("argument(1, 0, 1)", d.x.argument(1, 0, 1), NONE);
        d.due("NONE uses nothing", d.x.state(1, 0), 0);
        d.gave("argument(1, 0, 0)", d.x.argument(1, 0, 0), 0);
        d.due("use", d.x.state(1, 0), 1);
    }

    private static void numbers() {
        Desk d = new Desk("numbers");
        String most = "(999999999*2+147483647+2)";
        d.told("enum A{a(2+3*4-10/3),b(-7/2),c(7/-2),d(100/10/5*3-1-1),e(" + most + "),f(" + most + "+1),g(-" + most
            + "-1),h((-" + most + "-1)/-1),i(- -3-(-(2))),j(999999999*999999999),k(007),l(2*-3+-4*-5);}", 0);
        int[] due = {11, -3, -3, 4, Integer.MAX_VALUE, Integer.MIN_VALUE, Integer.MIN_VALUE, Integer.MIN_VALUE, 5,
            999999999 * 999999999, 7, 14};
        for (int i = 0; i < due.length; i++) {
            d.gave("argument " + i, d.x.argument(0, 0, i), due[i]);
        }
    }

    private static void acts() {
        Desk d = new Desk("acts");
        d.told("enum A{a(3){act go=above*100+ord;act own=value+above;},b(4),c{act to=above;act go=ord;};"
            + "act go=ord*10+value+size;}enum B{b;}", 0);
        d.due("act(0, 0, 3, 0)", d.x.act(0, 0, 3, 0), NONE);
        d.due("act(0, 0, -1, 0)", d.x.act(0, 0, -1, 0), NONE);
        d.due("act(0, 0, 0, 3)", d.x.act(0, 0, 0, 3), NONE);
        d.due("act(0, 0, 0, -1)", d.x.act(0, 0, 0, -1), NONE);
        d.due("act(0, 2, 0, 0)", d.x.act(0, 2, 0, 0), NONE);
        d.due("act(1, 0, 0, 0)", d.x.act(1, 0, 0, 0), NONE);
        d.due("NONE uses nothing", d.x.told(0, 2), 0);
        d.gave("go of a", d.x.act(0, 0, 0, 0), 600);
        d.gave("go of b", d.x.act(0, 0, 1, 0), 17);
        d.gave("go of c", d.x.act(0, 0, 2, 0), 2);
        d.due("own of a", d.x.act(0, 0, 0, 1), FAILED);
        d.causes(5, NONE);
        d.due("own of b", d.x.act(0, 0, 1, 1), FAILED);
        d.causes(5, NONE);
        d.due("to of c", d.x.act(0, 0, 2, 2), FAILED);
        d.causes(5, NONE);
        d.due("out()", d.x.out(), 2);
        d.due("go of B", d.x.act(0, 1, 0, 0), FAILED);
        d.starts(0, 0, 1);
        d.due("a FAILED act leaves the enum as it is", d.x.state(0, 1), 1);
        actsThatUse();
    }

    private static void actsThatUse() {
        Desk d = new Desk("acts that use");
        d.told("enum A{a{act go=above+B.b+above;};act go=C.h+C.t[B.c];}enum B{b(A.a+1),c;}"
            + "enum C{c;holder h=3;table t=[5,6];}enum D{d;act go=1/0+A.a;act to=A.a+E.e;}enum E{e;check 0;}", 0);
        d.gave("go", d.x.act(0, 0, 0, 0), 18);
        d.starts(0, 0, 108, 2, 1);
        d.seen(0);
        d.due("go of D", d.x.act(0, 3, 0, 0), FAILED);
        d.causes(4, NONE);
        d.due("to of D", d.x.act(0, 3, 0, 1), FAILED);
        d.causes(1, 4, 3, NONE);
        d.due("to of D", d.x.act(0, 3, 0, 1), FAILED);
        d.causes(2, 4);
        d.due("D", d.x.state(0, 3), 1);
    }

    private static void entries() {
        Desk d = new Desk("entries");
        d.told("enum A{a,b;table t=[7,b,t[0]+t[1]];table u=[t[2]*10,-size];}", 0);
        d.due("entry(0, 0, 2, 0)", d.x.entry(0, 0, 2, 0), NONE);
        d.due("entry(0, 0, -1, 0)", d.x.entry(0, 0, -1, 0), NONE);
        d.due("entry(0, 0, 0, 3)", d.x.entry(0, 0, 0, 3), NONE);
        d.due("entry(0, 0, 1, 2)", d.x.entry(0, 0, 1, 2), NONE);
        d.due("entry(0, 0, 0, -1)", d.x.entry(0, 0, 0, -1), NONE);
        d.due("entry(0, 1, 0, 0)", d.x.entry(0, 1, 0, 0), NONE);
        d.due("NONE uses nothing", d.x.state(0, 0), 0);
        int[][] due = {{7, 1, 8}, {80, -2}};
        for (int t = 0; t < 2; t++) {
            for (int k = 0; k < due[t].length; k++) {
                d.gave("entry(0, 0, " + t + ", " + k + ")", d.x.entry(0, 0, t, k), due[t][k]);
            }
        }
        d.starts(0, 0);
        d.seen(0);
    }

    private static void holders() {
        Desk d = new Desk("holders");
        d.told("enum A{a;holder h=size+1;holder k=h*2;holder l=A.a+k;}", 0);
        d.due("holder(0, 0, 3)", d.x.holder(0, 0, 3), NONE);
        d.due("holder(0, 0, -1)", d.x.holder(0, 0, -1), NONE);
        d.due("holder(0, 1, 0)", d.x.holder(0, 1, 0), NONE);
        d.due("holder(1, 0, 0)", d.x.holder(1, 0, 0), NONE);
        d.gave("k", d.x.holder(0, 0, 1), 4);
        d.due("its enum is not USED", d.x.state(0, 0), 0);
        d.starts(0, 101, 100);
        d.gave("l", d.x.holder(0, 0, 2), 4);
        d.starts(0, 101, 100, 102, 0);
        d.gave("h", d.x.holder(0, 0, 0), 2);
        d.starts(0, 101, 100, 102, 0);
    }

    private static void branches() {
        Desk d = new Desk("branches");
        d.told("enum A{a,b,c;switch s{case c:30;case a:10+B.b;else:size;}switch t{else:1/0;}}enum B{b,c;}", 0);
        d.due("branch(0, 0, 2, 0)", d.x.branch(0, 0, 2, 0), NONE);
        d.due("branch(0, 0, -1, 0)", d.x.branch(0, 0, -1, 0), NONE);
        d.due("branch(0, 0, 0, 3)", d.x.branch(0, 0, 0, 3), NONE);
        d.due("branch(0, 0, 0, -1)", d.x.branch(0, 0, 0, -1), NONE);
        d.due("branch(0, 1, 0, 0)", d.x.branch(0, 1, 0, 0), NONE);
        d.due("branch(1, 0, 0, 0)", d.x.branch(1, 0, 0, 0), NONE);
        d.due("NONE uses nothing", d.x.state(0, 0), 0);
        d.gave("c", d.x.branch(0, 0, 0, 2), 30);
        d.gave("b", d.x.branch(0, 0, 0, 1), 3);
        d.starts(0, 0);
        d.gave("a", d.x.branch(0, 0, 0, 0), 10);
        d.starts(0, 0, 1);
        d.due("t", d.x.branch(0, 0, 1, 0), FAILED);
        d.causes(4, NONE);
        d.due("out()", d.x.out(), 10);
    }

    private static void order() {
        Desk d = new Desk("order");
        d.told("enum A{a(C.c+B.b),b(D.d*E.e);table t=[F.f,G.h];check H.h;}enum B{b;}enum C{c(I.i);}enum D{d;}"
            + "enum E{e;}enum F{f;}enum G{g;holder h=1;}enum H{g,h;}enum I{i;}", 0);
        d.due("use", d.x.use(0, 0), 0);
        d.starts(0, 0, 2, 8, 1, 3, 4, 5, 124, 7);
        Desk f = new Desk("order up to a failure");
        f.told("enum A{a(1/0+B.b);}enum B{b(2);}enum C{c(B.b*(1-1/(1-1)*B.b)+D.d);}enum D{d;}"
            + "enum F{f(t[D.d]);table t=[G.g];}enum G{g;}enum H{h(H.t[1]+D.d);table t=[0];}", 0);
        f.due("use A", f.x.use(0, 0), FAILED);
        f.causes(1, 0, 4, NONE);
        f.starts(0, 0);
        f.due("use C", f.x.use(0, 2), FAILED);
        f.starts(0, 0, 2, 1);
        f.due("use F", f.x.use(0, 4), 0);
        f.starts(0, 0, 2, 1, 4, 3, 5);
        f.seen(0, 4, 4);
        f.due("use H", f.x.use(0, 6), FAILED);
        f.causes(1, 6, 4, NONE);
    }

    private static void rings() {
        Desk d = new Desk("rings");
        d.told("enum A{a(a),b(B.b+a),c(B.c);holder h=h+k-1;holder k=h*5+2;}enum B{b(A.a+A.b),c(A.c+A.b);}", 0);
        d.gave("a", d.x.argument(0, 0, 0), -1);
        d.gave("b", d.x.argument(0, 0, 1), 0);
        d.gave("c", d.x.argument(0, 0, 2), 1);
        d.gave("B.b", d.x.argument(0, 1, 0), -1);
        d.gave("B.c", d.x.argument(0, 1, 1), -2);
        d.seen(0, 0, 0, 1, 0, 1, 0, 1, 0);
        d.gave("h", d.x.holder(0, 0, 0), 1);
        d.gave("k", d.x.holder(0, 0, 1), 2);
        d.seen(0, 0, 0, 1, 0, 1, 0, 1, 0, 100, 100, 101, 100);
        d.due("seen(0, 0, 2)", d.x.seen(0, 0, 2), NONE);
        d.due("seen(0, 0, -1)", d.x.seen(0, 0, -1), NONE);
        d.due("seen(0, -1, 0)", d.x.seen(0, -1, 0), NONE);
        d.due("seen(1, 0, 0)", d.x.seen(1, 0, 0), NONE);
        Desk f = new Desk("rings from the other side");
        f.told("enum A{a(B.b);}enum B{b(A.a);}", 0);
        f.gave("B.b", f.x.argument(0, 1, 0), 0);
        f.gave("A.a", f.x.argument(0, 0, 0), -1);
        f.starts(0, 1, 0);
        f.seen(0, 0, 1);
    }

    private static void tablesMeanwhile() {
        Desk d = new Desk("tables meanwhile");
        d.told("enum A{a(t[1]+9),b(B.h);table t=[5,t[0]+t[1]+t[2],u[0]];table u=[6,B.k];}"
            + "enum B{b;holder h=A.t[2]+A.a*100+A.b;holder k=A.t[1]+A.u[0]+A.u[1];}", 0);
        d.due("use", d.x.use(0, 0), 0);
        d.gave("a", d.x.argument(0, 0, 0), 9);
        d.gave("b", d.x.argument(0, 0, 1), -1);
        d.gave("t[1]", d.x.entry(0, 0, 0, 1), 5);
        d.gave("t[2]", d.x.entry(0, 0, 0, 2), 0);
        d.gave("u[1]", d.x.entry(0, 0, 1, 1), 11);
        d.seen(0, 0, 0, 104, 0, 104, 0, 0, 0, 0, 0, 0, 0, 105, 0);
        d.starts(0, 0, 104, 105);
    }

    private static void failures() {
        Desk d = new Desk("failures");
        d.told("enum A{a(B.h);}enum B{b;holder h=C.c+1;}enum C{c(1/(D.d));}enum D{d;check 1;check d;check D.d/0;}"
            + "enum E{e;table t=[A.a];}enum F{f(1),g(f/0);}", 0);
        d.due("argument", d.x.argument(0, 0, 0), FAILED);
        d.causes(1, 0, 1, 104, 1, 2, 1, 3, 3, NONE);
        d.due("cause(-1, 0)", d.x.cause(-1, 0), NONE);
        d.due("cause(0, 2)", d.x.cause(0, 2), NONE);
        d.due("cause(0, -1)", d.x.cause(0, -1), NONE);
        d.due("entry", d.x.entry(0, 4, 0, 0), FAILED);
        d.causes(1, 4, 2, 0);
        d.due("holder", d.x.holder(0, 1, 0), FAILED);
        d.causes(2, 104);
        d.due("use", d.x.use(0, 1), 0);
        d.causes(2, 104);
        d.due("set", d.x.set(0, 2), FAILED);
        d.causes(2, 2);
        d.due("map", d.x.map(0, 5), FAILED);
        d.causes(1, 5, 4, NONE);
        d.due("branch of none", d.x.branch(0, 5, 0, 0), NONE);
        d.due("argument of a BAD one", d.x.argument(0, 5, 0), FAILED);
        d.causes(2, 5);
        d.due("out()", d.x.out(), 0);
        d.starts(0, 0, 104, 2, 3, 4, 1, 5);
        for (int e = 0; e < 6; e++) {
            d.due("state(0, " + e + ")", d.x.state(0, e), e == 1 ? 1 : 2);
        }
    }

    private static void failedIndexes() {
        Desk d = new Desk("failed indexes");
        d.told("enum A{a;table t=[1,2];holder h=t[2];holder k=t[-1];holder l=t[1]*t[0];}"
            + "enum B{b(t[3]);table t=[1,2,3];}enum C{c;table t=[t[1],D.d];}enum D{d(C.t[1]);}", 0);
        d.due("h", d.x.holder(0, 0, 0), FAILED);
        d.causes(1, 100, 4, NONE);
        d.due("k", d.x.holder(0, 0, 1), FAILED);
        d.causes(1, 101, 4, NONE);
        d.gave("l", d.x.holder(0, 0, 2), 2);
        d.due("B", d.x.use(0, 1), FAILED);
        d.causes(1, 1, 4, NONE);
        d.due("C", d.x.use(0, 2), 0);
        d.seen(0, 2, 2, 3, 2);
    }

    private static void twelveUnderWay() {
        Desk d = new Desk("twelve under way");
        StringBuilder text = new StringBuilder();
        for (int e = 0; e < 12; e++) {
            text.append("enum E").append(e).append("{a(").append(e < 11 ? "E" + (e + 1) + ".a" : "1")
                .append(");holder h=a;}");
        }
        d.told(text.toString(), 0);
        d.due("thirteen", d.x.holder(0, 0, 0), FAILED);
        int[] causes = new int[26];
        for (int e = 0; e < 12; e++) {
            causes[2 * e] = 1;
            causes[2 * e + 1] = e == 0 ? 100 : e - 1;
        }
        causes[24] = 6;
        causes[25] = NONE;
        d.causes(causes);
        d.starts(0, 100, 0, 1, 2, 3, 4, 5, 6, 7, 8, 9, 10);
        d.due("state(0, 10)", d.x.state(0, 10), 2);
        d.due("state(0, 11)", d.x.state(0, 11), 0);
        d.due("use(0, 11)", d.x.use(0, 11), 0);
        d.due("told(0, 2)", d.x.told(0, 2), 13);
        d.told(text.toString(), 1);
        d.due("twelve", d.x.use(1, 0), 0);
        d.gave("argument", d.x.argument(1, 0, 0), 0);
        d.due("told(1, 2)", d.x.told(1, 2), 12);
    }

    private static void deepExprs() {
        Desk d = new Desk("deep exprs");
        StringBuilder text = new StringBuilder();
        for (int e = 0; e < 12; e++) {
            text.append("enum E").append(e).append("{a(").append("1+2*(".repeat(12))
                .append(e < 11 ? "E" + (e + 1) + ".a" : "3").append(")".repeat(12)).append(");}");
        }
        d.told(text.toString(), 0);
        d.gave("argument", d.x.argument(0, 0, 0), 4095);
        d.gave("argument", d.x.argument(0, 11, 0), 4096 * 3 + 4095);
        d.told("enum A{a;act go=" + "1+2*(".repeat(12) + "1/0" + ")".repeat(12) + ";act to=1+2*3;}", 1);
        for (int n = 0; n < 400; n++) {
            d.due("go", d.x.act(1, 0, 0, 0), FAILED);
        }
        d.gave("what FAILED leaves nothing behind", d.x.act(1, 0, 0, 1), 7);
    }

    private static void editions() {
        Desk d = new Desk("editions");
        d.told("enum A{a,b;switch s{case a:1;else:2;}holder h=5;}", 0);
        d.told("enum A{b,a;switch s{case a:3;else:4;}holder h=6;}", 1);
        d.gave("branch of 0", d.x.branch(0, 0, 0, 0), 1);
        d.due("book 1 is asleep", d.x.state(1, 0), 0);
        d.gave("branch of 1", d.x.branch(1, 0, 0, 0), 4);
        d.gave("branch of 0", d.x.branch(0, 0, 0, 1), 2);
        d.gave("branch of 1", d.x.branch(1, 0, 0, 1), 3);
        d.gave("holder of 1", d.x.holder(1, 0, 0), 6);
        d.gave("holder of 0", d.x.holder(0, 0, 0), 5);
        d.starts(0, 0, 100);
        d.starts(1, 0, 100);
    }

    private static void outStays() {
        Desk d = new Desk("out");
        d.told("enum A{a(8);act go=9;holder h=1/0;}", 0);
        d.gave("act", d.x.act(0, 0, 0, 0), 9);
        d.due("use", d.x.use(0, 0), 0);
        d.due("out() behind use", d.x.out(), 9);
        d.due("holder", d.x.holder(0, 0, 0), FAILED);
        d.due("out() behind a FAILURE", d.x.out(), 9);
        d.due("argument", d.x.argument(0, 0, 1), NONE);
        d.due("out() behind NONE", d.x.out(), 9);
        d.gave("argument", d.x.argument(0, 0, 0), 8);
        d.due("set", d.x.set(0, 0), 0);
        d.due("out() behind set", d.x.out(), 8);
        d.causes(1, 100, 4, NONE);
    }
}
