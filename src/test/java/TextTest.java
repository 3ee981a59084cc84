/** Promises 4 to 7, 9, 10: book, wrong, told, about, letter, body; TOKENS, the text of a BOOK, FAULTS. */
public final class TextTest {
    public static void main(String[] args) {
        books();
        tokens();
        misplaced();
        words();
        toldAlready();
        notThere();
        tooMuch();
        asMuchAsMayBe();
        longTexts();
        nesting();
        whatWasTold();
        Desk.end();
    }

    private static void books() {
        Desk d = new Desk("books");
        d.fault("", 2, 0);
        d.fault(" \n ", 2, 3);
        d.due("told(0, 0)", d.x.told(0, 0), -1);
        for (int b = 0; b < 10; b++) {
            d.fault("enum A{a;", 2, 9);
            d.told("enum A{a;}", b);
            d.due("told", d.x.told(b, 0), 1);
            d.due("nothing starts", d.x.told(b, 2), 0);
        }
        d.feed("enum A{a;}");
        d.due("book(), an eleventh one", d.x.book(), SignalBook.FULL);
        d.due("wrong()", d.x.wrong(), 0);
        d.due("the tape stays", d.x.cut(10), 10);
        d.due("told(10, 0)", d.x.told(10, 0), -1);
        d.due("told(-1, 0)", d.x.told(-1, 0), -1);
    }

    private static void tokens() {
        Desk d = new Desk("tokens");
        d.told("\n enum\nA1b2C3d4E5{abcdefghij,Z9\n(\n123456789+000000001 ) ;\n\n} ", 0);
        d.told("enum A{a,b(- -1-A . a);}", 1);
        d.faultAtMark("enum |A1b2C3d4E5x{a;}", 1);
        d.faultAtMark("enum A{a(|1234567890);}", 1);
        d.faultAtMark("enum A{a(|1b);}", 1);
        d.faultAtMark("enum A{a(1+|0x1);}", 1);
        d.faultAtMark("enum A{|9a;}", 1);
        d.faultAtMark("enum A{a;}|?", 1);
        d.faultAtMark("|\tenum A{a;}", 1);
        d.faultAtMark("enum A{a;|\r}", 1);
        d.faultAtMark("enum A{a;|\0}", 1);
        d.faultAtMark("enum A{a;|_}", 1);
        d.faultAtMark("enum A{|\u00e9;}", 1);
        d.faultAtMark("enum A{a|%,\u00ff;}", 1);
        // a row goes as far as letters and digits do
        d.faultAtMark("|enumA{a;}", 2);
        d.faultAtMark("|Enum A{a;}", 2);
        d.faultAtMark("enum A{a;|tablet=[1];}", 2);
        // the first TOKEN with a FAULT, not the least FAULT
        d.faultAtMark("enum A{a|} ?", 2);
        d.faultAtMark("enum A{a,|a;?}", 3);
    }

    private static void misplaced() {
        Desk d = new Desk("misplaced");
        String[] marked = {
            "|a", "|;", "|1", "enum |", "enum |{a;}", "enum |1", "enum |enum{a;}", "enum |size{a;}", "enum A|",
            "enum A|;", "enum A{|}", "enum A{|;}", "enum A{|1;}", "enum A{|act;}", "enum A{a|", "enum A{a|}",
            "enum A{a |b;}", "enum A{a,|;}", "enum A{a,|}", "enum A{a(|);}", "enum A{a(1|;}", "enum A{a(1|,b);}",
            "enum A{a(1)|(2);}", "enum A{a{|};}", "enum A{a{act go=1;act|}", "enum A{a{act|=1;};}",
            "enum A{a{act go |1;};}", "enum A{a{act go=|;};}", "enum A{a{act go=1|};}", "enum A{a{act go=1;}|(1);}",
            "enum A{a{act go=1;|table t=[1];};}", "enum A{a{|go=1;};}", "enum A{a;|;}", "enum A{a;|b;}",
            "enum A{a;|", "enum A{a;|enum B{b;}}", "enum A{a;}|;", "enum A{a;}|a", "enum A{a;}|}", "enum A{a;} |1",
            "enum A{a;table |=[1];}", "enum A{a;table t|[1];}", "enum A{a;table t=|1;}", "enum A{a;table t=[|];}",
            "enum A{a;table t=[1,|];}", "enum A{a;table t=[1|;}", "enum A{a;table t=[1]|}", "enum A{a;check|;}",
            "enum A{a;check 1|}", "enum A{a;check 1|,2;}", "enum A{a;holder |1=1;}", "enum A{a;holder h|;}",
            "enum A{a;holder h=|;}", "enum A{a;holder h=1|}", "enum A{a;switch |{else:1;}}",
            "enum A{a;switch s |else:1;}", "enum A{a;switch s{|}}", "enum A{a;switch s{case |else:1;}}",
            "enum A{a;switch s{case a |1;else:1;}}", "enum A{a;switch s{case a:|;else:1;}}",
            "enum A{a;switch s{case a:1 |else:1;}}", "enum A{a;switch s{case a:1;|}}",
            "enum A{a;switch s{else |1;}}", "enum A{a;switch s{else:1|}}", "enum A{a;switch s{else:1;|case a:1;}}",
            "enum A{a;switch s{else:1;|else:1;}}", "enum A{a;switch s{else:1;}|;}", "enum A{a;|else:1;}",
            "enum A{a;check 1+|;}", "enum A{a;check 1 |1;}", "enum A{a;check |+1;}", "enum A{a;check 1*|/1;}",
            "enum A{a;check (1|;}", "enum A{a;check (1|];}", "enum A{a;check 1|);}", "enum A{a;check 1|[0];}",
            "enum A{a;check A.|;}", "enum A{a;check A.|1;}", "enum A{a;check A.|size;}", "enum A{a;check A.a|.a;}",
            "enum A{a;check |.a;}", "enum A{a;check (a)|[0];}", "enum A{a;check a[0]|[0];}", "enum A{a;check a[|];}",
            "enum A{a;check a[0|);}", "enum A{a;check a[0]|.a;}", "enum A{a;check -|;}", "enum A{a;check 1|.a;}",
            "enum A{a;check size|[0];}", "enum A{a;check 1|=1;}"
        };
        for (String text : marked) {
            d.faultAtMark(text, 2);
        }
        d.fault("enum A{a()", 2, 9);
        d.fault("enum A{a;} enum", 2, 15);
        d.fault("enum A{a;} enum  ", 2, 17);
    }

    private static void words() {
        Desk d = new Desk("words");
        d.told("enum A{a(ord+size){act go=value+ord+size+above;};act go=value+ord+size;table t=[size];"
            + "check size;holder h=size;switch s{case a:size;else:size;}}", 0);
        for (String word : new String[] {"value", "above"}) {
            d.faultAtMark("enum A{a(|" + word + ");}", 2);
            d.faultAtMark("enum A{a(A.t[|" + word + "]);table t=[1];}", 2);
        }
        d.faultAtMark("enum A{a;act go=|above;}", 2);
        for (String word : new String[] {"value", "above", "ord", "act", "else"}) {
            d.faultAtMark("enum A{a;table t=[|" + word + "];}", 2);
            d.faultAtMark("enum A{a;check |" + word + ";}", 2);
            d.faultAtMark("enum A{a;holder h=1+|" + word + ";}", 2);
            d.faultAtMark("enum A{a;switch s{case a:|" + word + ";else:1;}}", 2);
            d.faultAtMark("enum A{a;switch s{else:(|" + word + ");}}", 2);
        }
        // what is allowed in one place is not so in the next one
        d.faultAtMark("enum A{a{act go=value;},b(|value);}", 2);
        d.faultAtMark("enum A{a{act go=above;};act go=1;check 1;act to=|above;}", 2);
        d.faultAtMark("enum A{a;act go=value;check |value;}", 2);
        d.told("enum A{a(A.t[ord]);table t=[1];}", 1);
    }

    private static void toldAlready() {
        Desk d = new Desk("told already");
        d.faultAtMark("enum A{a;}enum B{b;}enum |A{a;}", 3);
        d.faultAtMark("enum A{a,b,|a;}", 3);
        d.faultAtMark("enum A{a;table |a=[1];}", 3);
        d.faultAtMark("enum A{a;table t=[1];table |t=[1];}", 3);
        d.faultAtMark("enum A{a;table t=[1];holder |t=1;}", 3);
        d.faultAtMark("enum A{a;holder h=1;switch |h{else:1;}}", 3);
        d.faultAtMark("enum A{a;switch s{else:1;}table |s=[1];}", 3);
        d.faultAtMark("enum A{a;switch s{else:1;}switch |s{else:1;}}", 3);
        d.faultAtMark("enum A{a;switch s{case a:1;case |a:1;else:1;}}", 3);
        d.faultAtMark("enum A{a;switch s{case b:1;case |b:1;else:1;}}", 3);
        d.faultAtMark("enum A{a{act go=1;act |go=1;};}", 3);
        d.faultAtMark("enum A{a;act go=1;check 1;act |go=1;}", 3);
        // not where they may be alike
        d.told("enum A{A{act A=1;},b{act A=1;act b=1;};act A=1;act b=1;holder h=1;switch s{case b:1;else:1;}"
            + "switch t{case b:1;else:1;}}enum b{A;holder h=1;table s=[1];act A=1;}", 0);
        d.due("ACTS", d.x.told(0, 1), 2);
    }

    private static void notThere() {
        Desk d = new Desk("not there");
        d.faultAtMark("enum A{a(|b);}", 4);
        d.faultAtMark("enum A{a(|B.a);}", 4);
        d.faultAtMark("enum A{a(A.|b);}", 4);
        d.faultAtMark("enum A{a(|a.b);}", 4);
        d.faultAtMark("enum A{a(|A);}", 4);
        d.faultAtMark("enum A{a(|t);table t=[1];}", 4);
        d.faultAtMark("enum A{a(|s);switch s{else:1;}}", 4);
        d.faultAtMark("enum A{a(|s[0]);switch s{else:1;}}", 4);
        d.faultAtMark("enum A{a(|a[0]);}", 4);
        d.faultAtMark("enum A{a(|h[0]);holder h=1;}", 4);
        d.faultAtMark("enum A{a(|u[v]);}", 4);
        d.faultAtMark("enum A{a(t[|v]);table t=[1];}", 4);
        d.faultAtMark("enum A{a(1+|B.x[v]+C);}", 4);
        d.faultAtMark("enum A{a;act go=1;check |go;}", 4);
        d.faultAtMark("enum A{a;}enum B{b(A.a+A.|b);}", 4);
        d.faultAtMark("enum A{a;switch s{case |b:1;else:1;}}", 4);
        d.faultAtMark("enum A{a;holder h=1;switch s{case |h:1;else:1;}}", 4);
        d.faultAtMark("enum A{a;switch s{case |b:c;else:d;}}", 4);
        d.faultAtMark("enum A{a;switch s{case a:|c;case d:1;else:d;}}", 4);
        d.faultAtMark("enum A{a;}enum B{b;switch s{case |a:1;else:1;}}", 4);
        // of several the first one in the text; behind all other FAULTS
        d.faultAtMark("enum A{a(|x),b(y);}", 4);
        d.faultAtMark("enum A{a(x);}enum |A{a;}", 3);
        d.faultAtMark("enum A{a(x);}|;", 2);
        d.faultAtMark("enum A{a(x);}|?", 1);
        // told later, in any sort
        d.told("enum A{a(B.b+h+B.k+B.t[u[0]]);table u=[1];holder h=1;}enum B{b;table t=[1];holder k=1;}", 0);
    }

    private static void tooMuch() {
        Desk d = new Desk("too much");
        d.faultAtMark(Desk.row(12, "", e -> "enum E" + e + "{a;}") + "|enum E0", 5);
        d.faultAtMark(Desk.row(12, "", e -> "enum E" + e + "{a;}") + "|E0", 2);
        d.faultAtMark("enum A{" + Desk.row(24, ",", i -> "c" + i) + ",|c24;}", 5);
        d.faultAtMark("enum A{" + Desk.row(24, ",", i -> "c" + i) + ",|c7;}", 3);
        d.faultAtMark("enum A{" + Desk.row(24, ",", i -> "c" + i) + ",|7;}", 2);
        d.faultAtMark("enum A{" + Desk.row(24, ",", i -> "c" + i) + ",|7c;}", 1);
        d.faultAtMark("enum A{a;" + Desk.row(4, "", t -> "table t" + t + "=[1];") + "|table a=[1];}", 5);
        d.faultAtMark("enum A{a;" + Desk.row(3, "", c -> "check 1;") + "|check 1;}", 5);
        d.faultAtMark("enum A{a;" + Desk.row(4, "", h -> "holder h" + h + "=1;") + "|holder a=1;}", 5);
        d.faultAtMark("enum A{a;" + Desk.row(3, "", s -> "switch s" + s + "{else:1;}") + "|switch a{else:1;}}", 5);
        String constants = Desk.row(13, ",", i -> "c" + i);
        String twelveCases = Desk.row(12, "", i -> "case c" + i + ":1;");
        d.faultAtMark("enum A{" + constants + ";switch s{" + twelveCases + "|case c0", 5);
        d.faultAtMark("enum A{a{" + Desk.row(4, "", i -> "act a" + i + "=1;") + "act |a4=1;};}", 5);
        d.faultAtMark("enum A{a{" + Desk.row(4, "", i -> "act a" + i + "=1;") + "act |a3=1;};}", 3);
        d.faultAtMark("enum A{a;" + Desk.row(4, "", i -> "act a" + i + "=1;") + "}enum B{b{act |b=1;};}", 5);
        d.faultAtMark("enum A{a;" + Desk.row(4, "", i -> "act a" + i + "=1;") + "}enum B{b{act |1=1;};}", 2);
        String twelve = "enum A{a;table t=[" + Desk.row(12, ",", k -> "1");
        for (String first : new String[] {"1", "-1", "(1)", "a", "A.a", "size", "b", "-(", "t[0]"}) {
            d.faultAtMark(twelve + ",|" + first + "];}", 5);
        }
        for (String first : new String[] {"", "*1", "value", "ord", ")", ",", "table"}) {
            d.faultAtMark(twelve + ",|" + first + "];}", 2);
        }
        d.faultAtMark(twelve + ",|1a];}", 1);
    }

    private static void asMuchAsMayBe() {
        Desk d = new Desk("as much as may be");
        d.told(Desk.row(12, "\n", e -> "enum E" + e + "{a;}"), 0);
        d.due("told", d.x.told(0, 0), 12);
        String text = "enum A{" + Desk.row(24, ",", i -> "c" + i) + ";" + Desk.row(4, "", i -> "act a" + i + "=1;")
            + Desk.row(4, "", t -> "table t" + t + "=[" + Desk.row(12, ",", k -> "1") + "];")
            + Desk.row(3, "", c -> "check 1;")
            + Desk.row(4, "", h -> "holder h" + h + "=1;")
            + Desk.row(3, "", s -> "switch s" + s + "{" + Desk.row(12, "", i -> "case c" + i + ":1;") + "else:1;}")
            + "}";
        d.told(text, 1);
        int[] counts = {24, 4, 3, 4, 3};
        for (int what = 0; what < 5; what++) {
            d.due("about", d.x.about(1, 0, what), counts[what]);
        }
        d.due("ACTS", d.x.told(1, 1), 4);
        d.gave("entry", d.x.entry(1, 0, 3, 11), 1);
        d.gave("branch", d.x.branch(1, 0, 2, 23), 1);
        d.due("use(0, 12)", d.x.use(0, 12), SignalBook.NONE);
        d.due("argument(1, 0, 24)", d.x.argument(1, 0, 24), SignalBook.NONE);
        d.due("entry(1, 0, 4, 0)", d.x.entry(1, 0, 4, 0), SignalBook.NONE);
        d.due("entry(1, 0, 3, 12)", d.x.entry(1, 0, 3, 12), SignalBook.NONE);
        d.due("holder(1, 0, 4)", d.x.holder(1, 0, 4), SignalBook.NONE);
        d.due("branch(1, 0, 3, 0)", d.x.branch(1, 0, 3, 0), SignalBook.NONE);
        d.due("body(1, 0, 0, 4)", d.x.body(1, 0, 0, 4), SignalBook.NONE);
        d.due("act(1, 0, 0, 4)", d.x.act(1, 0, 0, 4), SignalBook.NONE);
    }

    private static void longTexts() {
        Desk d = new Desk("long texts");
        for (int b = 0; b < 10; b++) {
            d.faultAtMark("enum A{a(" + "x+".repeat(1493) + "|);}", 2);
            d.told("enum A{a(" + b + "+1".repeat(1493) + ");}", b);
        }
        for (int b = 0; b < 10; b++) {
            d.gave("argument", d.x.argument(b, 0, 0), b + 1493);
        }
    }

    private static void nesting() {
        Desk d = new Desk("nesting");
        String open = "(".repeat(12);
        String close = ")".repeat(12);
        d.told("enum A{a(" + open + "1" + close + "+" + open + "1" + close + ");}", 0);
        d.faultAtMark("enum A{a(" + open + "|(1)" + close + ");}", 5);
        d.faultAtMark("enum A{a(" + open + "|-1" + close + ");}", 5);
        d.faultAtMark("enum A{a(" + open + "1-|-1" + close + ");}", 5);
        d.faultAtMark("enum A{a(" + open + "t|[1]" + close + ");}", 5);
        d.faultAtMark("enum A{a(" + "-".repeat(12) + "|-1);}", 5);
        d.faultAtMark("enum A{a(" + "-".repeat(12) + "|(1));}", 5);
        d.faultAtMark("enum A{a(" + "-".repeat(12) + "t|[1]);}", 5);
        d.faultAtMark("enum A{a(" + "-".repeat(12) + "|?);}", 1);
        d.faultAtMark("enum A{a(" + "-".repeat(12) + "|+1);}", 2);
        d.told("enum A{a(" + "-".repeat(12) + "1-" + "-".repeat(12) + "1*" + "-".repeat(12) + "1);}", 1);
        d.told("enum A{a;table t=[0," + "t[".repeat(12) + "0" + "]".repeat(12) + "];}", 2);
        d.faultAtMark("enum A{a;table t=[0," + "t[".repeat(12) + "t|[0]" + "]".repeat(12) + "];}", 5);
        d.faultAtMark("enum A{a;table t=[0," + "-t[(".repeat(4) + "1+A.t|[0]", 5);
        // a - ends with its factor, a bracket with its other one
        d.told("enum A{a(" + "(".repeat(11) + "-1-1+(1)*-1" + ")".repeat(11) + ");}", 3);
        d.told("enum A{a(" + open + "1" + ")".repeat(11) + "-(1)*((1)))" + ");}", 4);
    }

    private static void whatWasTold() {
        Desk d = new Desk("what was told");
        d.told("enum Long0Name9{a1(1){act go=1;},B{act to=1;act go=2;},c;act to=3;table t=[1];table u=[1];"
            + "check 1;check 1;check 1;holder h=1;}enum D{d;switch s{else:1;}}", 0);
        int[][] counts = {{3, 2, 3, 1, 0}, {1, 0, 0, 0, 1}};
        for (int e = 0; e < 2; e++) {
            for (int what = 0; what < 5; what++) {
                d.due("about(0, " + e + ", " + what + ")", d.x.about(0, e, what), counts[e][what]);
            }
            d.due("about, what -1", d.x.about(0, e, -1), -1);
            d.due("about, what 5", d.x.about(0, e, 5), -1);
        }
        d.due("about(0, 2, 0)", d.x.about(0, 2, 0), -1);
        d.due("about(0, -1, 0)", d.x.about(0, -1, 0), -1);
        d.due("about(1, 0, 0)", d.x.about(1, 0, 0), -1);
        d.due("told(0, 0)", d.x.told(0, 0), 2);
        d.due("told(0, 1)", d.x.told(0, 1), 2);
        d.due("told(0, 2)", d.x.told(0, 2), 0);
        d.due("told(0, 3)", d.x.told(0, 3), 0);
        d.due("told(0, 4)", d.x.told(0, 4), -1);
        d.due("told(0, -1)", d.x.told(0, -1), -1);
        letters(d);
        bodies(d);
        d.due("nothing starts", d.x.told(0, 2), 0);
    }

    private static void letters(Desk d) {
        String name = "Long0Name9";
        for (int k = 0; k < name.length(); k++) {
            d.due("letter(-1, " + k + ")", d.x.letter(0, 0, -1, k), name.charAt(k));
        }
        d.due("letter(0, 0, -1, 10)", d.x.letter(0, 0, -1, 10), -1);
        d.due("letter(0, 0, -1, -1)", d.x.letter(0, 0, -1, -1), -1);
        d.due("letter(0, 0, -2, 0)", d.x.letter(0, 0, -2, 0), -1);
        d.due("letter(0, 0, 0, 1)", d.x.letter(0, 0, 0, 1), '1');
        d.due("letter(0, 0, 1, 0)", d.x.letter(0, 0, 1, 0), 'B');
        d.due("letter(0, 0, 1, 1)", d.x.letter(0, 0, 1, 1), -1);
        d.due("letter(0, 0, 3, 0)", d.x.letter(0, 0, 3, 0), -1);
        d.due("letter(0, 1, 0, 0)", d.x.letter(0, 1, 0, 0), 'd');
        d.due("letter(0, 2, -1, 0)", d.x.letter(0, 2, -1, 0), -1);
        d.due("letter(1, 0, -1, 0)", d.x.letter(1, 0, -1, 0), -1);
        d.due("letter(0, 0, MIN, MIN)", d.x.letter(0, 0, Integer.MIN_VALUE, Integer.MIN_VALUE), -1);
        d.due("letter(0, 0, 0, MAX)", d.x.letter(0, 0, 0, Integer.MAX_VALUE), -1);
    }

    private static void bodies(Desk d) {
        int[][] due = {{0, 1}, {1, 0}, {1, 1}, {0, 0}};
        for (int i = -1; i < 3; i++) {
            for (int act = 0; act < 2; act++) {
                d.due("body(0, 0, " + i + ", " + act + ")", d.x.body(0, 0, i, act), due[i + 1][act]);
            }
            d.due("body, act 2", d.x.body(0, 0, i, 2), -1);
            d.due("body, act -1", d.x.body(0, 0, i, -1), -1);
        }
        d.due("body(0, 0, 3, 0)", d.x.body(0, 0, 3, 0), -1);
        d.due("body(0, 0, -2, 0)", d.x.body(0, 0, -2, 0), -1);
        d.due("body(0, 1, 0, 0)", d.x.body(0, 1, 0, 0), 0);
        d.due("body(0, 1, -1, 1)", d.x.body(0, 1, -1, 1), 0);
        d.due("body(0, 2, -1, 0)", d.x.body(0, 2, -1, 0), -1);
        d.due("body(1, 0, 0, 0)", d.x.body(1, 0, 0, 0), -1);
    }
}
