/** The sentences of the document's Terms about TOKENS, the text of a BOOK and its FAULTS, each at its edges. */
public final class EdgesOfTextsTest {
    private static final String[] KEYWORDS = {"enum", "act", "table", "check", "holder", "switch", "case", "else",
        "value", "ord", "size", "above"};
    /** A text with TOKENS and parts of all sorts, a blank between all of them. */
    private static final String ALL_SORTS = "enum A { a ( 1 + A . a ) { act go = value ; } , b ; table t = [ 1 , 2 ] ;"
        + " check t [ 0 ] ; holder h = - 1 ; switch s { case a : 1 ; else : ( 2 ) ; } }";

    public static void main(String[] args) {
        tape();
        calls();
        blanks();
        longest();
        words();
        numbers();
        signs();
        rows();
        keywords();
        choices();
        bookAndEnum();
        constant();
        actdef();
        member();
        expr();
        references();
        places();
        limits();
        acts();
        unlike();
        firstAndLeast();
        none();
        misplaced();
        toldAlready();
        notThere();
        tooMuch();
        nesting();
        arithmetic();
        Desk.end();
    }

    private static void tape() {
        Desk d = Desk.on(0, "THE TAPE has at most 3000 bytes.");
        String text = "enum A{a(1" + "+1".repeat(1493) + "); }";
        d.due("bytes of the text", text.length(), 3000);
        for (int b = 0; b < 9; b++) {
            d.told(text, b);
            d.gave("all of it was read", d.x.argument(b, 0, 0), 1494);
        }
        d.feed(" ".repeat(2999));
        d.due("two bytes more than 2999", d.x.feed(0, 2), SignalBook.FULL);
        d.due("one byte more than 2999", d.x.feed(0, 1), 3000);
        d.due("one byte more than 3000", d.x.feed(0, 1), SignalBook.FULL);
        d.due("the byte 0 stands last", d.x.book(), -10 - 2999);
    }

    private static void calls() {
        Desk d = Desk.on(0, "An object is used for at most 512 calls after it has been made; what later calls answer"
            + " is free.");
        d.told("enum A{a(1/0);holder h=3;}", 0);
        for (int call = 7; call <= 510; call++) {
            d.due("call " + call, d.x.use(0, 0), SignalBook.FAILED);
        }
        d.gave("calls 511 and 512", d.x.holder(0, 0, 0), 3);
        for (int call = 513; call < 3000; call++) {
            d.x.feed(call, 1 + call % 8);
            d.x.use(0, 0);
        }
    }

    private static void blanks() {
        Desk d = Desk.on(0, "A BOOK is read from it as a text of TOKENS, blanks (32, 10) between as may be,");
        d.told("enum A{a(1+2);act go=value*2;}", 0);
        d.told("\n\n enum \n A \n{ a ( 1 + 2 ) ; act  go = value * 2 ; } \n ", 1);
        d.told("enum\nA{a(1+2);act\ngo=value*2;}\n", 2);
        for (int b = 0; b < 3; b++) {
            d.gave("act of BOOK " + b, d.x.act(b, 0, 0, 0), 6);
        }
        for (int other : new int[] {0, 8, 9, 11, 12, 13, 31, 127, 133, 160, 255}) {
            d.faultAtMark("enum A{a; |" + (char) other + " }", 1);
        }
    }

    private static void longest() {
        Desk d = Desk.on(0, "each as long as can be:");
        d.told("enum A{a(12),aa,b(1-2),enumA;}", 0);
        d.gave("12 is one NUMBER", d.x.argument(0, 0, 0), 12);
        d.due("aa, enumA are one NAME each", d.x.about(0, 0, 0), 4);
        d.faultAtMark("enum A{a(1 |2);}", 2);
        d.faultAtMark("enum A{a |a;}", 2);
        d.faultAtMark("|enumA{a;}", 2);
    }

    private static void words() {
        Desk d = Desk.on(0, "WORDS (a letter a .. z, A .. Z, then letters and digits, 10 signs at most)");
        String[] names = {"azAZ09azAZ", "a", "z", "A", "Z", "a0", "z9", "A0", "Z9", "a123456789", "abcdefghij"};
        d.told("enum A{" + String.join(",", names) + ";}", 0);
        for (int i = 0; i < names.length; i++) {
            for (int k = 0; k < names[i].length(); k++) {
                d.due("letter " + k + " of " + names[i], d.x.letter(0, 0, i, k), names[i].charAt(k));
            }
            d.due("letter behind " + names[i], d.x.letter(0, 0, i, names[i].length()), SignalBook.NONE);
        }
        d.faultAtMark("enum A{|abcdefghijk;}", 1);
        d.faultAtMark("enum A{|a1234567890;}", 1);
        d.faultAtMark("enum |abcdefghijk{a;}", 1);
        d.faultAtMark("enum A{|0a;}", 1);
        d.faultAtMark("enum A{|0;}", 2);
        // the bytes beside a .. z, A .. Z, 0 .. 9
        for (String other : new String[] {"`", "@"}) {
            d.faultAtMark("enum A{a|" + other + ";}", 1);
        }
        for (String sign : new String[] {"[", "/", ":"}) {
            d.faultAtMark("enum A{a|" + sign + ";}", 2);
        }
    }

    private static void numbers() {
        Desk d = Desk.on(0, "NUMBERS (1 to 9 digits)");
        d.told("enum A{a(0),b(9),c(123456789),d(000000000),e(999999999),f(000000001);}", 0);
        int[] due = {0, 9, 123456789, 0, 999999999, 1};
        for (int i = 0; i < due.length; i++) {
            d.gave("argument " + i, d.x.argument(0, 0, i), due[i]);
        }
        d.faultAtMark("enum A{a(|1234567890);}", 1);
        d.faultAtMark("enum A{a(|0000000000);}", 1);
        d.faultAtMark("enum A{a(1+|2147483647);}", 1);
        d.faultAtMark("enum A{a(|" + "1".repeat(100) + ");}", 1);
    }

    private static void signs() {
        Desk d = Desk.on(0, "SIGNS { } ( ) [ ] , ; : = + - * . /");
        String tokens = "{}()[],;:=+-*./";
        for (int sign = 0; sign < 256; sign++) {
            d.x = new SignalBook();
            boolean token = tokens.indexOf(sign) >= 0 || sign < 128 && Character.isLetterOrDigit(sign);
            if (sign == 32 || sign == 10) {
                d.told("enum A{a;}" + (char) sign, 0);
            } else {
                d.fault("enum A{a;}" + (char) sign, token ? 2 : 1, 10);
            }
        }
    }

    private static void rows() {
        Desk d = Desk.on(0, "(a row of letters and digits goes as far as these do; one that is no WORD or NUMBER is"
            + " no TOKEN, like any other byte).");
        d.faultAtMark("enum A{a(|1x);}", 1);
        d.faultAtMark("enum A{a(|12x34);}", 1);
        d.faultAtMark("enum A{a(|0ord);}", 1);
        d.faultAtMark("enum A{a;check |1size;}", 1);
        d.faultAtMark("enum A{|abcdefghij0;}", 1);
        d.faultAtMark("enum A{a(|123456789a);}", 1);
        d.faultAtMark("enum A{a(|1234567890a);}", 1);
        d.faultAtMark("|9enum A{a;}", 1);
        d.faultAtMark("|enumenumenum A{a;}", 1);
        // another byte ends a row, and is no TOKEN by itself
        d.faultAtMark("enum A{a|_b;}", 1);
        d.faultAtMark("enum A{a(1|_000);}", 1);
        d.faultAtMark("enum A{a|\u00e4;}", 1);
    }

    private static void keywords() {
        Desk d = Desk.on(0, "KEYWORDS: enum act table check holder switch case else value ord size above; other"
            + " WORDS are NAMES.");
        for (String word : KEYWORDS) {
            d.faultAtMark("enum |" + word + "{a;}", 2);
            d.faultAtMark("enum A{|" + word + ";}", 2);
            d.faultAtMark("enum A{a{act |" + word + "=1;};}", 2);
            d.faultAtMark("enum A{a;table |" + word + "=[1];}", 2);
            d.faultAtMark("enum A{a;holder |" + word + "=1;}", 2);
            d.faultAtMark("enum A{a;switch |" + word + "{else:1;}}", 2);
            d.faultAtMark("enum A{a;switch s{case |" + word + ":1;else:1;}}", 2);
            d.faultAtMark("enum A{a;check A.|" + word + ";}", 2);
        }
        String[] names = {"Enum", "ENUM", "enums", "enu", "acts", "Table", "checks", "holde", "switch1", "cases",
            "elsE", "values", "or", "ords", "sizes", "abov", "enumact"};
        d.told("enum Enum{" + String.join(",", names) + ";}", 0);
        d.due("NAMES", d.x.about(0, 0, 0), names.length);
    }

    private static void choices() {
        Desk d = Desk.on(0, "[ X ] is X or nothing, { X } any number of X, | parts choices; signs in '' stand as"
            + " they are:");
        d.told("enum A{a;}", 0);
        d.told("enum A{a(1);}", 1);
        d.told("enum A{a{act go=1;};}", 2);
        d.told("enum A{a(1){act go=1;};}", 3);
        d.told("enum A{a;switch s{else:1;}}", 4);
        d.faultAtMark("enum A{a(1)|(1);}", 2);
        d.faultAtMark("enum A{a{act go=1;}|{act go=1;};}", 2);
        d.faultAtMark("enum A{a{act go=1;}|(1);}", 2);
        d.faultAtMark("enum A{a;check a|'[';}", 1);
        d.faultAtMark("enum A{a;check 1||2;}", 1);
    }

    private static void bookAndEnum() {
        Desk d = Desk.on(0, "book: enum { enum } enum: enum NAME '{' constant { , constant } ; { member } '}'");
        d.fault("", 2, 0);
        d.fault("   ", 2, 3);
        d.told("enum A{a;}", 0);
        d.told("enum A{a,b;}enum B{a;}", 1);
        d.told("enum A{a;check 1;}enum B{a;check 1;holder h=1;check 1;act go=1;act to=1;table t=[1];}", 2);
        String[] marked = {"|A{a;}", "|{a;}", "enum |{a;}", "enum A |a;}", "enum A{|}", "enum A{|;}",
            "enum A{|check 1;}", "enum A{a|}", "enum A{a,|;}", "enum A{|,a;}", "enum A{a |b;}", "enum A{a;|,b;}",
            "enum A{a;|b;}", "enum A{a;|;}", "enum A{a;|", "enum A{a;}|}", "enum A{a;}|;", "enum A{a;}|,enum B{b;}",
            "enum A{a;|enum B{b;}}", "enum A{a;check 1;|", "enum A{a;}|B{b;}", "enum A{a;} enum|",
            "enum A{a;} enum B{|"};
        for (String text : marked) {
            d.faultAtMark(text, 2);
        }
    }

    private static void constant() {
        Desk d = Desk.on(0, "constant: NAME [ '(' expr ')' ] [ '{' actdef { actdef } '}' ]");
        d.told("enum A{a,b(1),c{act go=1;},d(1){act go=1;act to=1;},e(1+1);}", 0);
        String[] marked = {"enum A{a(|);}", "enum A{a(|,1);}", "enum A{a(1|,1);}", "enum A{a(1|;}", "enum A{a(1|}",
            "enum A{a|);}", "enum A{a|[1];}", "enum A{a|=1;}", "enum A{a|.b;}", "enum A{a{|};}", "enum A{a{|go=1;};}",
            "enum A{a{|check 1;};}", "enum A{a{|holder h=1;};}", "enum A{a{act go=1;|,act to=1;};}",
            "enum A{a{act go=1;|;};}", "enum A{a{act go=1;|b;}", "enum A{a{act go=1;|", "enum A{a{act go=1;} |b;}",
            "enum A{a{act go=1;}|}"};
        for (String text : marked) {
            d.faultAtMark(text, 2);
        }
    }

    private static void actdef() {
        Desk d = Desk.on(0, "actdef: act NAME = expr ;");
        d.told("enum A{a{act go=1;};act go=2;}", 0);
        for (String where : new String[] {"enum A{a{%};}", "enum A{a;%}"}) {
            for (String act : new String[] {"act|=1;", "act |1=1;", "act go|;", "act go |1;", "act go=|;", "act go=1|,",
                "act go=1|]", "act go=|=1;", "act go|:1;", "act go|(1)=1;", "act |act go=1;"}) {
                d.faultAtMark(where.replace("%", act), 2);
            }
        }
    }

    private static void member() {
        Desk d = Desk.on(0, "member: actdef | table NAME = '[' expr { , expr } ']' ; | check expr ; | holder NAME ="
            + " expr ; | switch NAME '{' { case NAME : expr ; } else : expr ; '}'");
        d.told("enum A{a,b;table t=[1];table u=[1,2];check 1;holder h=1;switch s{else:1;}"
            + "switch r{case a:1;case b:2;else:3;}}", 0);
        String[] marked = {"table|=[1];", "table |[1];", "table t|[1];", "table t=|1;", "table t=|(1);",
            "table t=[|];", "table t=[|,1];", "table t=[1,|];", "table t=[1 |2];", "table t=[1|;2];", "table t=[1|);",
            "table t=[1]|,", "table t=[1]|+1;", "check|;", "check|=1;", "check 1|,1;", "check 1|:", "check h|=1;",
            "holder|=1;", "holder h|;", "holder h |1;", "holder h=|;", "holder h=|[1];", "holder h=1|,2;",
            "switch|{else:1;}", "switch s|;", "switch s |else:1;", "switch s{|}", "switch s{case a:1;|}",
            "switch s{|a:1;else:1;}", "switch s{case|:1;else:1;}", "switch s{case |1:1;else:1;}",
            "switch s{case a|=1;else:1;}", "switch s{case a|.b:1;else:1;}", "switch s{case a|,b:1;else:1;}",
            "switch s{case a:|;else:1;}", "switch s{case a:1|,else:1;}", "switch s{else|;}", "switch s{else |1;}",
            "switch s{else:|;}", "switch s{else:1|}", "switch s{else:1;|else:1;}", "switch s{else:1;|case a:1;}",
            "switch s{else:1;|;}", "switch s{else:1;}|;", "|else:1;", "|case a:1;", "|size;", "|1;", "|h=1;", "|[1];",
            "|{"};
        for (String text : marked) {
            d.faultAtMark("enum A{a,b;" + text + "}", 2);
        }
    }

    private static void expr() {
        Desk d = Desk.on(0, "expr: term { ( + | - ) term } term: factor { ( * | / ) factor } factor: NUMBER | -"
            + " factor | '(' expr ')' | value | ord | above | size | [ NAME . ] NAME [ '[' expr ']' ]");
        String factors = "1 -1 (1) value ord above size h A.h a A.a t[0] A.t[0] t[1-1] -t[0] (a) --(-1)";
        d.told("enum A{a{act go=" + factors.replace(' ', '+') + ";act to=" + factors.replace(" ", "*-")
            + ";act on=" + factors.replace(' ', '-') + "/1;};act go=1;act to=1;act on=1;table t=[1];holder h=1;}", 0);
        d.due("it STARTS well", d.x.use(0, 0), 0);
        String[] marked = {"|", "|+1", "|*1", "|/1", "1+|", "1-|", "1*|", "1/|", "1+|+1", "1*|*1", "1-|/1", "1+|)",
            "-|", "-|+1", "-|*1", "--|", "(|)", "(1|", "(1|]", "(1+|)", "1|)", "1 |1", "1|(1)", "1 |a", "a |1",
            "a|(1)", "1|.1", "1|.a", "|.a", "A.|", "A.|1", "A.|(a)", "A.|-a", "A.|.a", "A.a|.a", "(A)|.a", "t[|]",
            "t[0|", "t[0|)", "t[0|,1]", "t[0]|[0]", "t[0]|.a", "A.t[0]|[0]", "(t)|[0]", "1|[0]", "size|[0]", "size|.a",
            "|[0]", "|{1}", "1|=1", "1|:1", "|enum"};
        for (String text : marked) {
            d.faultAtMark("enum A{a;table t=[1];check " + text + ";}", 2);
        }
    }

    private static void references() {
        Desk d = Desk.on(0, "[ E . ] N: E is an enum of the BOOK (told earlier, later, or this one; without E this"
            + " one), N with [ expr ] a table of it, else a constant or holder of it.");
        d.told("enum A{x,y(20);table t=[10];holder h=100;}"
            + "enum B{y,x(A.x+A.t[0]+A.h),p(B.x+B.t[0]+B.h),q(x+t[0]+h),r(C.x+C.t[0]+C.h);table t=[20];holder h=200;}"
            + "enum C{y,z,x;table t=[30];holder h=300;}", 0);
        d.gave("told earlier", d.x.argument(0, 1, 1), 110);
        // its own table is not there yet
        d.gave("this one", d.x.argument(0, 1, 2), 201);
        d.gave("without E", d.x.argument(0, 1, 3), 201);
        d.gave("told later", d.x.argument(0, 1, 4), 332);
        // a NAME of another enum is not there without E, and another BOOK's enum is not there
        d.faultAtMark("enum A{a(|b);}enum B{b;}", 4);
        d.faultAtMark("enum D{d(|A.x);}", 4);
    }

    private static void places() {
        Desk d = Desk.on(0, "value stands in bodies (expr of an actdef) alone, ord in bodies and arguments, above in"
            + " bodies of constants, size anywhere.");
        String[] where = {"enum A{a{act go=%;};}", "enum A{a;act go=%;}", "enum A{a(%);}", "enum A{a;table t=[%];}",
            "enum A{a;check %;}", "enum A{a;holder h=%;}", "enum A{a;switch s{case a:%;else:1;}}",
            "enum A{a;switch s{else:%;}}"};
        String[] words = {"above", "value", "ord", "size"};
        int[] allowed = {1, 2, 3, where.length};
        for (int w = 0; w < words.length; w++) {
            for (int k = 0; k < where.length; k++) {
                for (String form : new String[] {"%", "1+%", "-(%)", "1*U.t[%]"}) {
                    d.x = new SignalBook();
                    String text = where[k].replace("%", form) + "enum U{u;table t=[1];}";
                    if (k < allowed[w]) {
                        d.told(text.replace("%", words[w]), 0);
                    } else {
                        d.faultAtMark(text.replace("%", "|" + words[w]), 2);
                    }
                }
            }
        }
        // what may stand in one expr may not for that in the next one
        String bodies = "enum A{a{act go=value+ord+above;},b(ord);act go=value+ord;";
        for (String word : new String[] {"above", "value", "ord"}) {
            for (String next : new String[] {"table t=[%];", "check %;", "holder h=%;", "switch s{else:%;}"}) {
                d.faultAtMark(bodies + next.replace("%", "|" + word) + "}", 2);
            }
        }
        d.faultAtMark(bodies.replace("b(ord)", "b(|value)") + "}", 2);
        d.faultAtMark(bodies.replace("b(ord)", "b(|above)") + "}", 2);
        d.faultAtMark(bodies + "act to=|above;}", 2);
    }

    private static void limits() {
        Desk d = Desk.on(0, "At most 12 enums, of each 24 constants, 4 tables of 12 entries, 3 checks, 4 holders, 3"
            + " switches of 12 cases;");
        d.told(Desk.row(12, "", e -> "enum E" + e + "{a;}"), 0);
        d.due("enums", d.x.told(0, 0), 12);
        d.faultAtMark(Desk.row(12, "", e -> "enum E" + e + "{a;}") + "|enum E12{a;}", 5);
        String all = "enum A{" + Desk.row(24, ",", i -> "c" + i) + ";"
            + Desk.row(4, "", t -> "table t" + t + "=[" + Desk.row(12, ",", k -> "1") + "];")
            + Desk.row(3, "", c -> "check 1;") + Desk.row(4, "", h -> "holder h" + h + "=1;")
            + Desk.row(3, "", s -> "switch s" + s + "{" + Desk.row(12, "", i -> "case c" + i + ":1;") + "else:1;}");
        d.told(all + "}enum B" + all.substring(6) + "}", 1);
        for (int e = 0; e < 2; e++) {
            int[] counts = {24, 4, 3, 4, 3};
            for (int what = 0; what < 5; what++) {
                d.due("about(1, " + e + ", " + what + ")", d.x.about(1, e, what), counts[what]);
            }
            d.gave("the last entry", d.x.entry(1, e, 3, 11), 1);
            d.gave("the last case", d.x.branch(1, e, 2, 11), 1);
        }
        for (String more : new String[] {"table z=[1];", "check 1;", "holder z=1;", "switch z{else:1;}"}) {
            d.faultAtMark(all + "|" + more + "}", 5);
        }
        d.faultAtMark("enum A{" + Desk.row(24, ",", i -> "c" + i) + ",|c24;}", 5);
        d.faultAtMark("enum A{a;table t=[" + Desk.row(12, ",", k -> "1") + ",|1];}", 5);
        d.faultAtMark("enum A{" + Desk.row(13, ",", i -> "c" + i) + ";switch s{"
            + Desk.row(12, "", i -> "case c" + i + ":1;") + "|case c12:1;else:1;}}", 5);
    }

    private static void acts() {
        Desk d = Desk.on(0, "4 ACTS in a BOOK (names behind act, each once, numbered as they first stand there).");
        d.told("enum A{a{act d=1;act b=1;},b{act b=1;};act c=1;act b=1;}enum B{a{act b=1;act a=1;};act d=1;}", 0);
        d.due("ACTS", d.x.told(0, 1), 4);
        int[][] due = {{0, 0, 1, 1, 0, 0}, {0, 1, 0, 1, 0, 0}, {0, -1, 0, 1, 1, 0}, {1, 0, 0, 1, 0, 1},
            {1, -1, 1, 0, 0, 0}};
        for (int[] line : due) {
            for (int act = 0; act < 4; act++) {
                d.due("body(0, " + line[0] + ", " + line[1] + ", " + act + ")", d.x.body(0, line[0], line[1], act),
                    line[2 + act]);
            }
        }
        String four = "enum A{a{act d=1;act b=1;};act c=1;}enum B{b;act a=1;";
        d.told(four + "act b=1;act c=1;act d=1;}enum C{c{act a=1;act b=1;act c=1;act d=1;};}", 1);
        d.due("ACTS", d.x.told(1, 1), 4);
        d.faultAtMark(four + "act |e=1;}", 5);
        d.faultAtMark(four + "}enum C{c{act a=1;act |e=1;};}", 5);
        d.told("enum A{a;}", 2);
        d.due("no ACTS", d.x.told(2, 1), 0);
    }

    private static void unlike() {
        Desk d = Desk.on(0, "NAMES of enums are unlike; of one enum those of constants, tables, holders, switches,"
            + " all together; of one switch those of cases; of one constant, and of the enum itself, the acts that"
            + " bodies are told for.");
        d.faultAtMark("enum A{a;}enum |A{a;}", 3);
        String start = "enum A{a;table t=[1];holder h=1;switch s{else:1;}";
        for (String name : new String[] {"a", "t", "h", "s"}) {
            d.faultAtMark(start + "table |" + name + "=[1];}", 3);
            d.faultAtMark(start + "holder |" + name + "=1;}", 3);
            d.faultAtMark(start + "switch |" + name + "{else:1;}}", 3);
        }
        d.faultAtMark("enum A{a,b,|a;}", 3);
        d.faultAtMark("enum A{a;switch s{case a:1;case |a:2;else:1;}}", 3);
        d.faultAtMark("enum A{a{act go=1;act to=1;act |go=1;};}", 3);
        d.faultAtMark("enum A{a;act go=1;act to=1;act |go=1;}", 3);
        d.told("enum A{A,b{act A=1;},c{act A=1;};act A=1;table t=[1];holder h=1;switch s{case b:1;else:1;}"
            + "switch r{case b:1;else:1;}}enum b{A,b,t;table h=[1];holder s=1;switch r{else:1;}}", 0);
        d.told("enum a{a,A,aA,Aa;}enum A{a;}", 1);
    }

    private static void firstAndLeast() {
        Desk d = Desk.on(0, "FAULTS, the first TOKEN with one, of one TOKEN the least:");
        // two TOKENS, each FAULT ahead of and behind another one
        String[] faults = {"1x,", "a,", "1,"};
        int[] kinds = {1, 3, 2};
        for (int first = 0; first < 3; first++) {
            for (int second = 0; second < 3; second++) {
                d.faultAtMark("enum A{a,|" + faults[first] + faults[second] + "b;}", kinds[first]);
            }
        }
        d.faultAtMark("enum A{" + Desk.row(24, ",", i -> "c" + i) + ",|c24,c0,1,?;}", 5);
        d.faultAtMark("enum A{c,|c," + Desk.row(24, ",", i -> "c" + i) + ",1,?;}", 3);
        // one TOKEN with several
        String full = "enum A{" + Desk.row(24, ",", i -> "c" + i) + ",|";
        d.faultAtMark(full + "?;}", 1);
        d.faultAtMark(full + "1;}", 2);
        d.faultAtMark(full + "c23;}", 3);
        d.faultAtMark("enum A{a;table t=[" + Desk.row(12, ",", k -> "1") + ",|ord];}", 2);
        d.faultAtMark("enum A{a;table t=[" + Desk.row(12, ",", k -> "1") + ",|?];}", 1);
        d.faultAtMark("enum A{a(" + "-".repeat(12) + "|[);}", 2);
        d.faultAtMark(Desk.row(12, "", e -> "enum E" + e + "{a;}") + "|?", 1);
        d.faultAtMark(Desk.row(12, "", e -> "enum E" + e + "{a;}") + "|act", 2);
    }

    private static void none() {
        Desk d = Desk.on(0, "1 it is none;");
        // at each place of a text, ahead of whatever may stand there
        String text = ALL_SORTS + " ";
        d.told(text, 0);
        int place = 0;
        for (String token : text.split(" ")) {
            d.fault(text.substring(0, place) + "?" + text.substring(place), 1, place);
            place += token.length() + 1;
        }
        d.fault(text + "?", 1, place);
    }

    private static void misplaced() {
        Desk d = Desk.on(0, "2 it can't stand there (the end: the text's length is its place);");
        d.told(ALL_SORTS, 0);
        // the end is too early everywhere
        for (int cut = ALL_SORTS.indexOf(' '); cut >= 0; cut = ALL_SORTS.indexOf(' ', cut + 1)) {
            d.fault(ALL_SORTS.substring(0, cut), 2, cut);
            d.fault(ALL_SORTS.substring(0, cut) + "\n ", 2, cut + 2);
        }
        // within an enum the word enum can't stand anywhere
        for (int cut = ALL_SORTS.indexOf(' '); cut >= 0; cut = ALL_SORTS.indexOf(' ', cut + 1)) {
            d.fault(ALL_SORTS.substring(0, cut) + " enum" + ALL_SORTS.substring(cut), 2, cut + 1);
        }
        d.fault(ALL_SORTS + " }", 2, ALL_SORTS.length() + 1);
        d.told(ALL_SORTS + " " + ALL_SORTS.replace("enum A", "enum B"), 1);
    }

    private static void toldAlready() {
        Desk d = Desk.on(0, "3 a NAME that was told already where they are to be unlike;");
        d.faultAtMark("enum A{a;}enum B{a;}enum |B{a;}", 3);
        d.faultAtMark("enum A{a,b,c,|c;}", 3);
        d.faultAtMark("enum A{a;table |a=[1];}", 3);
        d.faultAtMark("enum A{a;switch s{case x:1;case |x:1;else:1;}}", 3);
        d.faultAtMark("enum A{a,b{act go=1;act |go=1;};}", 3);
        // told, though what it names is not yet whole
        d.faultAtMark("enum A{a;switch s{case a:1;else:1;}holder |s=1;}", 3);
        // a NAME that is read is not told by that
        d.told("enum A{a(t[0]+h+B.x),b;table t=[h];holder h=1;}enum B{x;}", 0);
        // an edition tells all its NAMES anew
        d.told("enum A{a(t[0]+h+B.x),b;table t=[h];holder h=1;}enum B{x;}", 1);
    }

    private static void notThere() {
        Desk d = Desk.on(0, "4 E or N, or the NAME of a case (a constant of its enum), is not there, or of another"
            + " sort (E ahead of N; found at the text's end, behind all other FAULTS; of several the first one in"
            + " the text);");
        String others = ";table t=[1];holder h=1;switch s{else:1;}act go=1;}enum B{b;table u=[1];holder k=1;}";
        String[] marked = {"|x", "|x.a", "|x.x", "|x[0]", "|x.t[0]", "A.|x", "A.|x[0]", "|a.a", "|h.a", "|t.a", "|A",
            "|B", "|go", "|b", "|k", "|u[0]", "|t", "|s", "|a[0]", "|h[0]", "|s[0]", "|go[0]", "A.|t", "A.|s",
            "A.|a[0]", "A.|h[0]", "B.|a", "B.|h", "B.|t[0]", "B.|u", "B.|b[0]", "A.|A", "B.|B", "1+a+B.b+|c", "t[|x]",
            "|x[x]", "B.u[|x]", "B.|x[x]", "a+|x.x[x.x]", "-(t[0]*|y)+x", "|X.a+x", "|x+X.a"};
        for (String text : marked) {
            d.faultAtMark("enum A{a(" + text + ")" + others, 4);
        }
        for (String name : new String[] {"x", "t", "h", "s", "go", "b", "A"}) {
            d.faultAtMark("enum A{a" + others.replace("s{", "s{case |" + name + ":1;"), 4);
        }
        d.faultAtMark("enum A{a" + others.replace("s{", "s{case |x:y;case a:z;"), 4);
        d.faultAtMark("enum A{a" + others.replace("s{", "s{case a:|y;case x:z;"), 4);
        // behind all other FAULTS, wherever they stand
        d.faultAtMark("enum A{a(x);}|?", 1);
        d.faultAtMark("enum A{a(x);|", 2);
        d.faultAtMark("enum A{a(x),|a;}", 3);
        d.faultAtMark("enum A{a(x);check X.x;check 1;check 1;|check 1;}", 5);
        d.faultAtMark("enum A{a;table t=[" + Desk.row(12, ",", k -> "1") + ",|x];}", 5);
        // the first one in the text, not in the order of its enums' sorts
        d.faultAtMark("enum A{a;holder h=|x;check y;table t=[z];}", 4);
        d.faultAtMark("enum A{a;switch s{else:|x;}act go=y;}enum B{b(z);}", 4);
        d.faultAtMark("enum A{a{act go=|x;},b(y);}", 4);
    }

    private static void tooMuch() {
        Desk d = Desk.on(0, "5 too much: an enum, table, check, holder, switch, case (at that word), a constant, the"
            + " fifth ACT (at its NAME), an entry (at its first TOKEN);");
        d.faultAtMark(Desk.row(12, "", e -> "enum E" + e + "{a;}") + "|enum", 5);
        d.faultAtMark("enum A{a;" + Desk.row(4, "", k -> "table t" + k + "=[1];") + "|table", 5);
        d.faultAtMark("enum A{a;" + Desk.row(3, "", k -> "check 1;") + "|check", 5);
        d.faultAtMark("enum A{a;" + Desk.row(4, "", k -> "holder h" + k + "=1;") + "|holder", 5);
        d.faultAtMark("enum A{a;" + Desk.row(3, "", k -> "switch s" + k + "{else:1;}") + "|switch", 5);
        d.faultAtMark("enum A{a;switch s{" + Desk.row(12, "", k -> "case c" + k + ":1;") + "|case", 5);
        d.faultAtMark("enum A{" + Desk.row(24, ",", i -> "c" + i) + ",|x", 5);
        d.faultAtMark("enum A{" + Desk.row(4, ",", i -> "c" + i + "{act a" + i + "=1;}") + ";act |x", 5);
        d.faultAtMark("enum A{a{" + Desk.row(4, "", k -> "act a" + k + "=1;") + "act |x", 5);
        d.faultAtMark("enum A{a{" + Desk.row(4, "", k -> "act a" + k + "=1;") + "act |a0", 3);
        for (String first : new String[] {"1", "-", "(", "size", "x", "A", "t[0]", "(1)", "-1"}) {
            d.faultAtMark("enum A{a;table t=[" + Desk.row(12, ",", k -> "(1)") + ",|" + first, 5);
        }
        // what may still stand behind as many as may be
        d.told(Desk.row(12, "", e -> "enum E" + e + "{a;}") + " \n", 0);
        d.faultAtMark("enum A{" + Desk.row(24, ",", i -> "c" + i) + ",|;}", 2);
        d.faultAtMark("enum A{a;table t=[" + Desk.row(12, ",", k -> "1") + ",|];}", 2);
        d.faultAtMark("enum A{" + Desk.row(4, ",", i -> "c" + i + "{act a" + i + "=1;}") + ";act |=1;}", 2);
    }

    private static void nesting() {
        Desk d = Desk.on(0, "a ( , [ or - of a factor within 12 others of these, each up to its end.");
        String[] opens = {"(", "-", "t[", "A.t["};
        String[] closes = {")", "", "]", "]"};
        for (int outer = 0; outer < 4; outer++) {
            String open = opens[outer].repeat(12);
            String close = closes[outer].repeat(12);
            d.x = new SignalBook();
            d.told("enum A{a;table t=[0];check 1+" + open + "0" + close + "*" + open + "0" + close + "-" + open + "0"
                + close
                + ";}", 0);
            d.faultAtMark("enum A{a;table t=[0];check " + open + "|(0)" + close + ";}", 5);
            d.faultAtMark("enum A{a;table t=[0];check " + open + "|-0" + close + ";}", 5);
            d.faultAtMark("enum A{a;table t=[0];check " + open + "t|[0]" + close + ";}", 5);
            d.faultAtMark("enum A{a;table t=[0];check " + open + "A.t|[0]" + close + ";}", 5);
        }
        // the signs between terms, of an argument and of a table are no signs of a factor
        d.told("enum A{a(0-1-1-" + "(".repeat(12) + "0-0-0" + ")".repeat(12) + ");table t=[" + "-".repeat(12)
            + "0];}", 1);
        // a - ends with its factor, so that what stands behind it is not within it
        d.told("enum A{a(" + "(".repeat(11) + "-0*(0)+(0)-(0)/-1" + ")".repeat(11) + ");}", 2);
        d.faultAtMark("enum A{a(" + "(".repeat(11) + "-0*(0)+(|-0)" + ")".repeat(11) + ");}", 5);
        d.faultAtMark("enum A{a(" + "(".repeat(11) + "-|(0)" + ")".repeat(11) + ");}", 5);
        d.told("enum A{a;table t=[0];check " + "(".repeat(10) + "-t[0]+t[-0]" + ")".repeat(10) + ";}", 3);
        d.faultAtMark("enum A{a;table t=[0];check " + "(".repeat(10) + "-t[0]+t[-|-0]" + ")".repeat(10) + ";}", 5);
    }

    private static void arithmetic() {
        Desk d = Desk.on(0, "Numbers are ints that wrap; / cuts towards 0 (of -2147483648 by -1: itself).");
        String most = "(2*999999999+147483649)";
        String least = "(-" + most + "-1)";
        String[] exprs = {most, least, most + "+1", least + "-1", "-" + least, least + "*-1", most + "*2",
            least + "*2", "65536*65536", "65536*32768", "46341*46341", least + "/-1", least + "/1", least + "/2",
            least + "/" + least, most + "/" + least, "7/2", "-7/2", "7/-2", "-7/-2", "1/2", "-1/2", "999999999/-10",
            "0/-5", "-(7)/2"};
        int[] due = {Integer.MAX_VALUE, Integer.MIN_VALUE, Integer.MIN_VALUE, Integer.MAX_VALUE, Integer.MIN_VALUE,
            Integer.MIN_VALUE, -2, 0, 0, Integer.MIN_VALUE, -2147479015, Integer.MIN_VALUE, Integer.MIN_VALUE,
            -1073741824, 1, 0, 3, -3, -3, 3, 0, 0, -99999999, 0, -3};
        for (int k = 0; k < exprs.length; k++) {
            d.x = new SignalBook();
            d.told("enum A{a(" + exprs[k] + ");}", 0);
            d.gave(exprs[k], d.x.argument(0, 0, 0), due[k]);
        }
    }
}
