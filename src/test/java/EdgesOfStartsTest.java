/** The sentences of the document's Terms about ITEMS, STARTS and FAILURES, each at its edges. */
public final class EdgesOfStartsTest {
    private static final int NONE = SignalBook.NONE, FAILED = SignalBook.FAILED;

    public static void main(String[] args) {
        books();
        items();
        asleep();
        toUse();
        twelveUnderWay();
        constants();
        tables();
        checks();
        well();
        holders();
        bad();
        workedOut();
        constantsRead();
        entriesRead();
        holdersRead();
        words();
        seen();
        causes();
        acts();
        failed();
        Desk.end();
    }

    private static void books() {
        Desk d = Desk.on(0, "BOOKS are numbered from 0 on, 10 at most; all that is told here is of one BOOK alone.");
        for (int b = 0; b < 10; b++) {
            d.told("enum A{a(" + b + "),b(B.b);act go=value;holder h=a;check " + (b - 5) + ";}enum B{b(A.b);}", b);
        }
        d.feed("enum A{a;}");
        d.due("the eleventh", d.x.book(), SignalBook.FULL);
        for (int b = 9; b >= 0; b--) {
            d.due("ITEMS of BOOK " + b, d.x.state(b, 0) + d.x.state(b, 1) + d.x.state(b, 100), 0);
            d.due("STARTS of BOOK " + b, d.x.told(b, 2), 0);
            d.due("use", d.x.use(b, 0), b == 5 ? FAILED : 0);
            d.starts(b, 0, 1);
            d.seen(b, 1, 0);
        }
        d.causes(1, 0, 3, NONE);
        // no more of a BOOK than of the next one: neither ACTS nor NAMES
        d.x = new SignalBook();
        d.told("enum A{a;act go=1;act to=1;act on=1;act up=1;}", 0);
        d.told("enum B{a;act up=1;act down=1;}", 1);
        d.due("ACTS", d.x.told(1, 1), 2);
        d.due("up is ACT 0", d.x.act(1, 0, 0, 0), 0);
        d.due("no ACT 2", d.x.act(1, 0, 0, 2), NONE);
        d.faultAtMark("enum C{a(|A.a);}", 4);
    }

    private static void items() {
        Desk d = Desk.on(0, "ITEMS are its enums (their numbers, from 0 on) and holders (100 and 4 times the enum's"
            + " number and the holder's).");
        d.told(Desk.row(12, "", e -> "enum E" + e + "{a;" + Desk.row(4, "", h -> "holder h" + h + "=a;") + "}"), 0);
        for (int e = 0; e < 12; e++) {
            d.due("state of an enum", d.x.state(0, e), 0);
            for (int h = 0; h < 4; h++) {
                d.gave("holder(0, " + e + ", " + h + ")", d.x.holder(0, e, h), 0);
                d.due("its START", d.x.start(0, e * 5 + (h == 0 ? 0 : h + 1)), 100 + 4 * e + h);
                d.due("its state", d.x.state(0, 100 + 4 * e + h), 1);
            }
            d.due("its enum's START", d.x.start(0, e * 5 + 1), e);
        }
        d.due("STARTS", d.x.told(0, 2), 60);
        d.none("state(0, item)", item -> d.x.state(0, item), -1, 12, 13, 99, 148, 149, 200, Integer.MAX_VALUE,
            Integer.MIN_VALUE);
        d.told("enum A{a;holder h=1;}enum B{b;}enum C{c;holder h=1;holder i=1;holder j=1;}", 1);
        for (int item = -2; item < 160; item++) {
            boolean is = item >= 0 && item < 3 || item == 100 || item >= 108 && item < 111;
            d.due("state(1, " + item + ")", d.x.state(1, item), is ? 0 : NONE);
        }
    }

    private static void asleep() {
        Desk d = Desk.on(0, "Each is ASLEEP at first.");
        d.told("enum A{a(1/0),b(B.h);table t=[1];check 0;holder h=1/0;}enum B{b;holder h=1;}", 0);
        for (int item : new int[] {0, 1, 100, 104}) {
            d.due("state(0, " + item + ")", d.x.state(0, item), 0);
        }
        d.starts(0);
        d.seen(0);
        d.due("no CAUSE", d.x.cause(0, 0), NONE);
    }

    private static void toUse() {
        Desk d = Desk.on(0, "TO USE an ITEM: if it is ASLEEP it STARTS; if it is BAD the act FAILS with 2 (BY it);"
            + " else nothing.");
        d.told("enum A{a;}enum B{b;check 0;holder h=1/0;}enum C{c(C.c+A.a);}enum D{d;holder h=B.h;act go=B.b;}", 0);
        for (int n = 0; n < 3; n++) {
            d.due("use(0, 0)", d.x.use(0, 0), 0);
            d.starts(0, 0);
        }
        d.due("use(0, 1)", d.x.use(0, 1), FAILED);
        d.causes(1, 1, 3, NONE);
        d.due("holder(0, 1, 0)", d.x.holder(0, 1, 0), FAILED);
        d.causes(1, 104, 4, NONE);
        for (int n = 0; n < 3; n++) {
            d.due("use(0, 1)", d.x.use(0, 1), FAILED);
            d.causes(2, 1);
            d.due("holder(0, 1, 0)", d.x.holder(0, 1, 0), FAILED);
            d.causes(2, 104);
            d.due("act(0, 3, 0, 0)", d.x.act(0, 3, 0, 0), FAILED);
            d.causes(2, 1);
        }
        d.due("holder(0, 3, 0)", d.x.holder(0, 3, 0), FAILED);
        d.causes(1, 112, 2, 104);
        // UNDER WAY it is USED by itself, and WELL by others, without another START
        d.due("use(0, 2)", d.x.use(0, 2), 0);
        d.starts(0, 0, 1, 104, 3, 112, 2);
    }

    private static String chain(int from, String last) {
        return Desk.row(12 - from, "", k -> "enum E" + (k + from) + "{a("
            + (k + from < 11 ? "E" + (k + from + 1) + ".a" : last) + ");holder h=a;}");
    }

    private static void twelveUnderWay() {
        Desk d = Desk.on(0, "TO START it: it FAILS with 6, and stays ASLEEP, if 12 ITEMS are UNDER WAY; else it is"
            + " UNDER WAY; then");
        d.told(chain(0, "1"), 0);
        d.due("twelve enums", d.x.use(0, 0), 0);
        d.due("STARTS", d.x.told(0, 2), 12);
        d.told(chain(0, "1"), 1);
        d.due("a holder, and twelve enums", d.x.holder(1, 0, 0), FAILED);
        int[] causes = {1, 100, 1, 0, 1, 1, 1, 2, 1, 3, 1, 4, 1, 5, 1, 6, 1, 7, 1, 8, 1, 9, 1, 10, 6, NONE};
        d.causes(causes);
        d.due("the thirteenth stays ASLEEP", d.x.state(1, 11), 0);
        d.due("the twelfth", d.x.state(1, 10), 2);
        d.due("the first", d.x.state(1, 100), 2);
        d.starts(1, 100, 0, 1, 2, 3, 4, 5, 6, 7, 8, 9, 10);
        d.gave("the thirteenth, later", d.x.holder(1, 11, 0), 0);
        d.starts(1, 100, 0, 1, 2, 3, 4, 5, 6, 7, 8, 9, 10, 144, 11);
        // a thirteenth ITEM that is a holder
        d.told(chain(0, "h"), 2);
        d.due("twelve enums, and a holder", d.x.use(2, 0), FAILED);
        d.due("it stays ASLEEP", d.x.state(2, 144), 0);
        d.due("the twelfth", d.x.state(2, 11), 2);
        d.due("CAUSE 12", d.x.cause(12, 0), 6);
        d.due("CAUSE 13", d.x.cause(13, 0), NONE);
        // one that is WELL, BAD or UNDER WAY needs no START
        String lastHolder = "h=a;}";
        String text = chain(0, "h");
        String start = text.substring(0, text.length() - lastHolder.length());
        d.told(start + "h=7;}", 3);
        d.gave("the holder ahead", d.x.holder(3, 11, 0), 7);
        d.due("twelve enums, which read it", d.x.use(3, 0), 0);
        d.told(start + "h=1/0;}", 4);
        d.due("the holder ahead", d.x.holder(4, 11, 0), FAILED);
        d.due("twelve enums, which read it", d.x.use(4, 0), FAILED);
        d.due("CAUSE 12", d.x.cause(12, 0), 2);
        d.due("CAUSE 12", d.x.cause(12, 1), 144);
        d.told(chain(0, "E0.a+E5.a"), 5);
        d.due("a ring of twelve", d.x.use(5, 0), 0);
        d.seen(5, 11, 0, 11, 5);
        // what has ended is no longer UNDER WAY
        d.told(chain(1, "1").replace("a(E11.a)", "a(E11.a+E11.h)") + "enum E0{a(E2.a+E1.a+E3.h+E4.h+E5.h);}", 6);
        d.due("one after the other", d.x.use(6, 11), 0);
        d.due("STARTS", d.x.told(6, 2), 16);
    }

    private static void constants() {
        Desk d = Desk.on(0, "an enum: in order, for each constant its argument is worked out (0 without one), and it"
            + " is MADE, with that ARGUMENT;");
        d.told("enum A{a(B.b),b,c(a+b*10+c*100+d*1000),d(C.c+ord);table t=[d];}enum B{b(A.a);}"
            + "enum C{c(A.c*10+A.d);}", 0);
        d.gave("a", d.x.argument(0, 0, 0), 0);
        d.gave("b", d.x.argument(0, 0, 1), 0);
        d.gave("c: a, b are MADE, c and d not", d.x.argument(0, 0, 2), 10 - 100 - 1000);
        d.gave("d", d.x.argument(0, 0, 3), 3);
        d.gave("C.c: c is MADE, d not", d.x.argument(0, 2, 0), 20 - 1);
        d.gave("t[0]: d is MADE", d.x.entry(0, 0, 0, 0), 3);
        d.starts(0, 0, 1, 2);
        d.seen(0, 1, 0, 0, 0, 0, 0, 2, 0);
        // 24 of them, each of which reads the one ahead of it
        d.told("enum A{c0(5)," + Desk.row(23, ",", i -> "c" + (i + 1) + "(c" + i + "+1)") + ";}", 1);
        for (int i = 1; i < 24; i++) {
            d.gave("argument " + i, d.x.argument(1, 0, i), i);
        }
        d.seen(1);
    }

    private static void tables() {
        Desk d = Desk.on(0, "then, for each table in order, each entry in order is worked out, and is there;");
        d.told("enum A{a(t[0]+u[1]);table t=[B.b+3,t[0]*10+t[1],u[0]+t[1]];table u=[t[2]+a,C.h,u[1]];check D.d;}"
            + "enum B{b;}enum C{c;holder h=A.t[0]+A.u[0]+A.u[1]+A.u[2];}enum D{d,e;check A.u[1]-33;}", 0);
        d.due("use", d.x.use(0, 0), FAILED);
        d.starts(0, 0, 1, 108, 3);
        d.causes(1, 0, 1, 3, 3, NONE);
        d.seen(0, 0, 0, 0, 0, 0, 0, 0, 0, 108, 0, 108, 0);
        // all of 4 tables of 12 entries, each of which reads the one ahead of it
        d.told("enum A{a;" + Desk.row(4, "", t -> "table t" + t + "=[" + (t == 0 ? "1" : "t" + (t - 1) + "[11]+1") + ","
            + Desk.row(11, ",", k -> "t" + t + "[" + k + "]+1") + "];") + "}", 1);
        for (int k = 0; k < 48; k++) {
            d.gave("entry " + k, d.x.entry(1, 0, k / 12, k % 12), k + 1);
        }
        d.seen(1);
    }

    private static void checks() {
        Desk d = Desk.on(0, "then each check, in order: FAILS with 3 if it is 0.");
        d.told("enum A{a;table t=[1];check 1;check -1;check 65536*32768;}"
            + "enum B{b;check 1;check B.t[0]-7;check C.c;table t=[7];}enum C{c;}enum D{d,e;check e-d;check D.e-1;}"
            + "enum E{e;check C.c/0;check 0;}enum F{f;check 65536*65536;}enum G{g;check 1/2;}"
            + "enum H{h;check H.h+1;}", 0);
        d.due("none is 0", d.x.use(0, 0), 0);
        d.due("the second is 0", d.x.use(0, 1), FAILED);
        d.causes(1, 1, 3, NONE);
        d.starts(0, 0, 1);
        d.due("the last is 0", d.x.use(0, 3), FAILED);
        d.causes(1, 3, 3, NONE);
        d.due("the first FAILS", d.x.use(0, 4), FAILED);
        d.causes(1, 4, 4, NONE);
        d.due("it wraps to 0", d.x.use(0, 5), FAILED);
        d.due("it is cut to 0", d.x.use(0, 6), FAILED);
        d.due("what it reads is MADE", d.x.use(0, 7), 0);
        d.seen(0);
    }

    private static void well() {
        Desk d = Desk.on(0, "Then it is WELL.");
        d.told("enum A{a;}enum B{b(1);table t=[2];check 3;holder h=1/0;}enum C{c(D.d);check D.d+1;}enum D{d(C.c);}", 0);
        for (int e = 0; e < 3; e++) {
            d.due("use(0, " + e + ")", d.x.use(0, e), 0);
            d.due("state(0, " + e + ")", d.x.state(0, e), 1);
        }
        d.due("one that it USED", d.x.state(0, 3), 1);
        d.due("its holder is not by that", d.x.state(0, 104), 0);
        d.due("a holder that FAILS", d.x.holder(0, 1, 0), FAILED);
        d.due("it stays WELL", d.x.state(0, 1), 1);
        d.due("and is USED without another START", d.x.use(0, 1), 0);
        d.starts(0, 0, 1, 2, 3, 104);
    }

    private static void holders() {
        Desk d = Desk.on(0, "a holder: its expr is worked out; then it is WELL, and that its VALUE.");
        d.told("enum A{a;check 0;holder h=size-4;holder i=B.b*0;holder j=h*h+i;holder k=1/(h+3);}enum B{b(A.j);}", 0);
        d.gave("j", d.x.holder(0, 0, 2), 9);
        d.starts(0, 102, 100, 101, 1);
        d.seen(0, 1, 102);
        for (int n = 0; n < 2; n++) {
            d.gave("h", d.x.holder(0, 0, 0), -3);
            d.gave("i", d.x.holder(0, 0, 1), 0);
            d.gave("j", d.x.holder(0, 0, 2), 9);
        }
        d.due("k", d.x.holder(0, 0, 3), FAILED);
        d.due("it is BAD", d.x.state(0, 103), 2);
        d.starts(0, 102, 100, 101, 1, 103);
        d.due("their enum is ASLEEP", d.x.state(0, 0), 0);
        d.gave("B.b has what was SEEN", d.x.argument(0, 1, 0), 0);
    }

    private static void bad() {
        Desk d = Desk.on(0, "If one of these FAILS: it is BAD (a START FAILS with 1, BY it, ahead of what it FAILED"
            + " by), and what USED it FAILS so.");
        String[] failing = {"enum A{a,b(1/0),c(C.c);}", "enum A{a;table t=[1,1/0,C.c];table u=[C.c];}",
            "enum A{a;check 1/0;check C.c;}", "enum A{a;table t=[1];check t[1];}"};
        for (String text : failing) {
            d.x = new SignalBook();
            d.told(text + "enum B{b(A.a+C.c);holder h=B.b+C.c;act go=h+C.c;}enum C{c;}", 0);
            d.due("holder", d.x.holder(0, 1, 0), FAILED);
            d.causes(1, 104, 1, 1, 1, 0, 4, NONE);
            d.starts(0, 104, 1, 0);
            for (int item : new int[] {0, 1, 104}) {
                d.due("state(0, " + item + ")", d.x.state(0, item), 2);
            }
            d.due("state(0, 2)", d.x.state(0, 2), 0);
            d.due("act", d.x.act(0, 1, 0, 0), FAILED);
            d.causes(2, 1);
            d.due("nothing of a BAD enum is read", d.x.argument(0, 0, 0), FAILED);
            d.causes(2, 0);
        }
        // BAD by a 2, and a FAILURE that reaches an ITEM UNDER WAY by a ring
        d.x = new SignalBook();
        d.told("enum A{a(B.b);}enum B{b(A.a+C.h);}enum C{c(A.a);holder h=C.c+1/0;}enum D{d(A.a);}", 0);
        d.due("use", d.x.use(0, 0), FAILED);
        d.causes(1, 0, 1, 1, 1, 108, 4, NONE);
        d.due("what went well stays so", d.x.state(0, 2), 1);
        d.gave("C.c", d.x.argument(0, 2, 0), -1);
        d.due("D", d.x.use(0, 3), FAILED);
        d.causes(1, 3, 2, 0);
        d.seen(0, 1, 0, 2, 0);
    }

    private static void workedOut() {
        Desk d = Desk.on(0, "TO WORK OUT, from the left to the right: NUMBERS, signs as usual (/ by 0 FAILS with 4).");
        String[] exprs = {"2+3*4", "2*3+4", "20-3-4", "64/4/2", "64/4*2", "2-3*4-5", "-2*-3", "- -2", "-(2-5)",
            "(2+3)*(4-6)", "7-(2-(1-4))", "7/2*2", "2*7/2", "-7/2", "1-1/2", "0*5", "0/5"};
        int[] due = {14, 10, 13, 8, 32, -15, 6, 2, 3, -10, 2, 6, 7, -3, 1, 0, 0};
        d.told("enum A{" + Desk.row(exprs.length, ",", i -> "c" + i + "(" + exprs[i] + ")") + ";}", 0);
        for (int i = 0; i < exprs.length; i++) {
            d.gave(exprs[i], d.x.argument(0, 0, i), due[i]);
        }
        String others = "}enum B{b;}enum C{c;}enum D{d;}enum E{e;}";
        d.told("enum A{a;act go=B.b+C.c*(D.d-E.e);act to=1/(1-1);" + others, 1);
        d.gave("go", d.x.act(1, 0, 0, 0), 0);
        d.starts(1, 0, 1, 2, 3, 4);
        String[] failing = {"1/0", "0/0", "B.b/C.c", "5/(1-1)", "5*1/2/0", "-(1/0)", "1/(1/2)", "1/-0",
            "1/(65536*65536)"};
        for (String text : failing) {
            d.x = new SignalBook();
            d.told("enum A{a;act go=" + text + "+D.d;" + others, 0);
            d.due(text, d.x.act(0, 0, 0, 0), FAILED);
            d.causes(4, NONE);
            d.due("nothing behind it is worked out", d.x.state(0, 3), 0);
        }
        // the factors of a / are worked out ahead of it, those behind it are not
        d.x = new SignalBook();
        d.told("enum A{a;act go=B.b-C.c/D.d*E.e;" + others, 0);
        d.due("go", d.x.act(0, 0, 0, 0), FAILED);
        d.starts(0, 0, 1, 2, 3);
    }

    private static void constantsRead() {
        Desk d = Desk.on(0, "[ E . ] N: a constant: E is USED; its ORDINAL, from 0 on, if it is MADE, else it is"
            + " SEEN: -1.");
        d.told("enum A{a(a),b(A.a*10+A.b),c(B.b);}enum B{x,y,b(A.b*100+A.c);}enum C{c;act go=A.c;act to=c;act on=D.d;}"
            + "enum D{d;check 0;}", 0);
        d.gave("go", d.x.act(0, 2, 0, 0), 2);
        d.starts(0, 2, 0, 1);
        d.seen(0, 0, 0, 0, 0, 1, 0);
        int[][] due = {{-1, -1, 2}, {0, 0, 99}};
        for (int e = 0; e < 2; e++) {
            for (int i = 0; i < 3; i++) {
                d.gave("argument(0, " + e + ", " + i + ")", d.x.argument(0, e, i), due[e][i]);
            }
        }
        d.gave("the first one's ORDINAL", d.x.act(0, 2, 0, 1), 0);
        d.due("E FAILS", d.x.act(0, 2, 0, 2), FAILED);
        d.causes(1, 3, 3, NONE);
        d.due("E is BAD", d.x.act(0, 2, 0, 2), FAILED);
        d.causes(2, 3);
        d.seen(0, 0, 0, 0, 0, 1, 0);
    }

    private static void entriesRead() {
        Desk d = Desk.on(0, "An entry: E is USED, then the expr is worked out (FAILS with 4, if the table has no"
            + " such entry); the entry if it is there, else it is SEEN: 0.");
        String others = "}enum B{b;table t=[10,20,30];}enum C{c,d,e,f;}enum D{d;check 0;table t=[1];}";
        d.told("enum A{a;act go=B.t[C.e];act to=B.t[C.f];act on=B.t[-1-C.c];act up=D.t[E.e];" + others
            + "enum E{e;}", 0);
        d.gave("the last entry", d.x.act(0, 0, 0, 0), 30);
        d.starts(0, 0, 1, 2);
        d.due("one behind it", d.x.act(0, 0, 0, 1), FAILED);
        d.causes(4, NONE);
        d.due("one ahead of the first", d.x.act(0, 0, 0, 2), FAILED);
        d.causes(4, NONE);
        d.due("E FAILS", d.x.act(0, 0, 0, 3), FAILED);
        d.causes(1, 3, 3, NONE);
        d.due("then the expr is not worked out", d.x.state(0, 4), 0);
        String most = "(2*999999999+147483649)";
        for (String index : new String[] {"3", "12", "-1", most, "-" + most + "-1", "65536*65536-1", "999999999"}) {
            d.x = new SignalBook();
            d.told("enum A{a;act go=B.t[" + index + "];" + others, 0);
            d.due("B.t[" + index + "]", d.x.act(0, 0, 0, 0), FAILED);
            d.causes(4, NONE);
            d.due("B was USED", d.x.state(0, 1), 1);
        }
        // what is not there yet: SEEN; what never will be there: FAILS
        d.x = new SignalBook();
        d.told("enum A{a(t[0]+u[1]+9),b(B.b);table t=[t[0]+t[1],t[0]+5,t[1]*2];table u=[t[2],u[1]];}"
            + "enum B{b(A.t[2]-3);}enum C{c(t[1]);table t=[1];}", 0);
        d.gave("a", d.x.argument(0, 0, 0), 9);
        d.gave("B.b", d.x.argument(0, 1, 0), -3);
        int[] due = {0, 5, 10};
        for (int k = 0; k < 3; k++) {
            d.gave("t", d.x.entry(0, 0, 0, k), due[k]);
        }
        d.gave("u", d.x.entry(0, 0, 1, 0), 10);
        d.gave("u", d.x.entry(0, 0, 1, 1), 0);
        d.seen(0, 0, 0, 0, 0, 1, 0, 0, 0, 0, 0, 0, 0);
        d.due("C", d.x.use(0, 2), FAILED);
        d.causes(1, 2, 4, NONE);
        d.due("SEEN", d.x.told(0, 3), 6);
    }

    private static void holdersRead() {
        Desk d = Desk.on(0, "A holder: it is USED (its enum is not, by that); its VALUE; if it is UNDER WAY it is"
            + " SEEN: 0.");
        d.told("enum A{a(1/0);holder h=7;holder i=i*10+A.i+3;holder j=k+1;holder k=j*5+2;}"
            + "enum B{b;act go=A.h;act to=A.i;act on=A.j;holder h=1/0;act up=B.h;}", 0);
        d.gave("its VALUE", d.x.act(0, 1, 0, 0), 7);
        d.due("its enum is not USED", d.x.state(0, 0), 0);
        d.gave("it reads itself", d.x.act(0, 1, 0, 1), 3);
        d.seen(0, 101, 101, 101, 101);
        d.gave("it reads one that reads it", d.x.act(0, 1, 0, 2), 3);
        d.seen(0, 101, 101, 101, 101, 103, 102);
        d.gave("that one", d.x.holder(0, 0, 3), 2);
        d.due("it FAILS", d.x.act(0, 1, 0, 3), FAILED);
        d.causes(1, 104, 4, NONE);
        d.due("it is BAD", d.x.act(0, 1, 0, 3), FAILED);
        d.causes(2, 104);
        d.starts(0, 1, 100, 101, 102, 103, 104);
    }

    private static void words() {
        Desk d = Desk.on(0, "ord: the constant's ORDINAL; value: its ARGUMENT; above: what the enum's own body for"
            + " that ACT gives of it (FAILS with 5 without one); size: how many constants this enum has.");
        String own = "{act go=above*1000+ord*100+value*10+size;act to=above;act on=above+above*above;}";
        d.told("enum A{a(ord+5)" + own + ",b(ord+5),c(ord+size)" + own
            + ";act go=value-ord;act on=ord+size;act up=B.t[value];}"
            + "enum B{x,y(A.c);table t=[size,size*size];}", 0);
        d.gave("a.go", d.x.act(0, 0, 0, 0), 5053);
        d.gave("b.go", d.x.act(0, 0, 1, 0), 5);
        d.gave("c.go", d.x.act(0, 0, 2, 0), 3253);
        for (int i = 0; i < 3; i++) {
            d.due("to", d.x.act(0, 0, i, 1), FAILED);
            d.causes(5, NONE);
        }
        d.gave("a.on", d.x.act(0, 0, 0, 2), 12);
        d.gave("b.on", d.x.act(0, 0, 1, 2), 4);
        d.gave("c.on", d.x.act(0, 0, 2, 2), 30);
        d.due("a.up: the table has no entry 5", d.x.act(0, 0, 0, 3), FAILED);
        d.gave("B's own size", d.x.entry(0, 1, 0, 1), 4);
        d.told("enum A{" + Desk.row(24, ",", i -> "c" + i + "(ord*size)") + ";act go=ord+value;}", 1);
        d.gave("the last of 24", d.x.act(1, 0, 23, 0), 23 + 23 * 24);
        // above FAILS as what it gives does, and what is ahead of it has been worked out
        d.told("enum A{a{act go=B.b+above+C.c;act to=B.b+above+C.c;};act go=1/0;}enum B{b;}enum C{c;}", 2);
        d.due("go", d.x.act(2, 0, 0, 0), FAILED);
        d.causes(4, NONE);
        d.due("to", d.x.act(2, 0, 0, 1), FAILED);
        d.causes(5, NONE);
        d.starts(2, 0, 1);
    }

    private static void seen() {
        Desk d = Desk.on(0, "What is SEEN is told: the innermost ITEM UNDER WAY, and the ITEM that was read (E, or"
            + " the holder).");
        d.told("enum A{a(B.h),b(b);holder h=C.c;}enum B{b(A.b+C.t[0]);holder h=B.b+A.a;}"
            + "enum C{c(B.h+A.h);table t=[1];}", 0);
        d.due("A", d.x.use(0, 0), 0);
        d.starts(0, 0, 104, 1, 2, 100);
        // B reads A.b; C reads B.h, A.h, which reads C.c; then B.h reads A.a, and A.b itself
        d.seen(0, 1, 0, 2, 104, 100, 2, 104, 0, 0, 0);
        d.none("seen(0, i, 0)", i -> d.x.seen(0, i, 0), Desk.beside(5));
        // a FAILED START keeps what it has SEEN; one that is SEEN twice is told twice
        d.told("enum A{a(a+a+a-1/0);}", 1);
        d.due("A", d.x.use(1, 0), FAILED);
        d.seen(1, 0, 0, 0, 0, 0, 0);
        // as many as a text can tell
        d.told("enum A{a(a" + "+a".repeat(1400) + ");}", 2);
        d.gave("a", d.x.argument(2, 0, 0), -1401);
        d.due("SEEN", d.x.told(2, 3), 1401);
        d.due("the last", d.x.seen(2, 1400, 1), 0);
        d.due("behind the last", d.x.seen(2, 1401, 1), NONE);
    }

    private static void causes() {
        Desk d = Desk.on(0, "A FAILURE has CAUSES, in order: 1 for each START that FAILED by it, the outermost"
            + " first, then 2, 3, 4, 5 or 6.");
        d.told("enum A{a(B.h);act go=C.c;act to=A.a+D.d;act on=1/0;}enum B{b;holder h=C.c;}enum C{c;check 0;}"
            + "enum D{d(B.h);}enum E{e{act up=above;};}", 0);
        d.due("a 3, within three STARTS", d.x.use(0, 0), FAILED);
        d.causes(1, 0, 1, 104, 1, 2, 3, NONE);
        d.due("a 2, within one START", d.x.use(0, 3), FAILED);
        d.causes(1, 3, 2, 104);
        d.due("a 2 alone", d.x.use(0, 2), FAILED);
        d.causes(2, 2);
        d.due("a 5 alone", d.x.act(0, 4, 0, 3), FAILED);
        d.causes(5, NONE);
        d.told("enum A{a;act go=B.b;act to=1/0;}enum B{b(C.t[1]);}enum C{c;table t=[1];}", 1);
        d.due("a 4, within a START of a body", d.x.act(1, 0, 0, 0), FAILED);
        d.causes(1, 1, 4, NONE);
        d.due("a 4 alone", d.x.act(1, 0, 0, 1), FAILED);
        d.causes(4, NONE);
    }

    private static void acts() {
        Desk d = Desk.on(0, "ACTS OF THE FACE with b, e, i are about a BOOK, an enum, a constant; NONE: there is no"
            + " such one (or whatever else is told, of several refusals the first one told).");
        d.told("enum A{a,b;check 0;table t=[1];switch s{else:1;}holder h=1;act go=1;}", 0);
        for (int wrong : Desk.beside(1)) {
            int[] due = {d.x.told(wrong, 0), d.x.about(wrong, 0, 0), d.x.about(0, wrong, 0), d.x.state(wrong, 0),
                d.x.letter(wrong, 0, 0, 0), d.x.letter(0, wrong, 0, 0), d.x.body(wrong, 0, 0, 0),
                d.x.body(0, wrong, 0, 0), d.x.use(wrong, 0), d.x.use(0, wrong), d.x.argument(wrong, 0, 0),
                d.x.argument(0, wrong, 0), d.x.act(wrong, 0, 0, 0), d.x.act(0, wrong, 0, 0), d.x.entry(wrong, 0, 0, 0),
                d.x.entry(0, wrong, 0, 0), d.x.holder(wrong, 0, 0), d.x.holder(0, wrong, 0),
                d.x.branch(wrong, 0, 0, 0), d.x.branch(0, wrong, 0, 0), d.x.start(wrong, 0), d.x.seen(wrong, 0, 0),
                d.x.set(wrong, 0), d.x.set(0, wrong), d.x.map(wrong, 0), d.x.map(0, wrong), d.x.encode(wrong)};
            for (int k = 0; k < due.length; k++) {
                d.due("call " + k + " with " + wrong, due[k], NONE);
            }
        }
        // NONE is told ahead of FAILED, and nothing is USED by it
        d.none("argument(0, 0, i)", i -> d.x.argument(0, 0, i), Desk.beside(2));
        d.none("act(0, 0, i, 0)", i -> d.x.act(0, 0, i, 0), Desk.beside(2));
        d.none("branch(0, 0, 0, i)", i -> d.x.branch(0, 0, 0, i), Desk.beside(2));
        d.starts(0);
        d.due("no CAUSE", d.x.cause(0, 0), NONE);
        d.due("argument(0, 0, 1)", d.x.argument(0, 0, 1), FAILED);
    }

    private static void failed() {
        Desk d = Desk.on(0, "FAILED: it FAILS; nothing else changes, but STARTS, SEEN, and what cause() tells.");
        d.told("enum A{a(7);act go=value;}enum B{b(b+C.c);table t=[1];switch s{else:1;}holder h=A.a/0;act up=1;}"
            + "enum C{c;check 0;}", 0);
        d.gave("go", d.x.act(0, 0, 0, 0), 7);
        d.feed("left");
        int[] answers = {d.x.use(0, 1), d.x.argument(0, 1, 0), d.x.act(0, 1, 0, 1), d.x.entry(0, 1, 0, 0),
            d.x.holder(0, 1, 0), d.x.branch(0, 1, 0, 0), d.x.set(0, 1), d.x.map(0, 1)};
        for (int k = 0; k < answers.length; k++) {
            d.due("act " + k, answers[k], FAILED);
        }
        d.due("out()", d.x.out(), 7);
        d.due("wrong()", d.x.wrong(), 0);
        d.due("the tape", d.x.cut(5), SignalBook.BAD);
        d.due("the tape", d.x.cut(4), 4);
        d.due("no SET", d.x.member(0, -1), NONE);
        d.due("no MAP", d.x.get(0, 0), NONE);
        d.due("the next SET", d.x.set(0, 0), 0);
        d.due("the next MAP", d.x.map(0, 0), 0);
        d.starts(0, 0, 1, 2, 104);
        d.seen(0, 1, 1);
        d.causes(2, 1);
        // nothing is left of the numbers that an expr had come to
        d.x = new SignalBook();
        d.told("enum A{a;act go=" + "1+2*(".repeat(12) + "1/0" + ")".repeat(12) + ";act to=" + "1+2*(".repeat(12) + "0"
            + ")".repeat(12) + ";}", 0);
        for (int n = 0; n < 300; n++) {
            d.due("go", d.x.act(0, 0, 0, 0), FAILED);
        }
        d.gave("to", d.x.act(0, 0, 0, 1), 4095);
    }
}
