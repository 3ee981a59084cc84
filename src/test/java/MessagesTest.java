/** Promises 29 to 31: encode, signal, decode. */
public final class MessagesTest {
    private static final int NONE = SignalBook.NONE, FULL = SignalBook.FULL;
    private static final String TEXT = "enum A{a,ab;holder h=1;table t=[1];act go=1;check 0;}enum B{b,a,abcdefghij;}";

    public static void main(String[] args) {
        encoded();
        refused();
        sixty();
        fullMessages();
        decoded();
        editions();
        Desk.end();
    }

    private static void encode(Desk d, String text, int answer) {
        d.x.cut(0);
        d.feed(text);
        d.due("encode(0) of " + text, d.x.encode(0), answer);
        d.due("the tape is empty behind " + text, d.x.cut(1), SignalBook.BAD);
    }

    private static void encodedBadly(Desk d, String marked) {
        int place = marked.indexOf('|');
        encode(d, marked.substring(0, place) + marked.substring(place + 1), -10 - place);
    }

    private static void signals(Desk d, int message, int book, int[]... due) {
        for (int i = 0; i < due.length; i++) {
            for (int what = 0; what < 3; what++) {
                d.due("signal(" + message + ", " + i + ", " + what + ")", d.x.signal(message, i, what), due[i][what]);
            }
            d.due("signal's BOOK", d.x.signal(message, i, 3), book);
            d.due("signal, what 4", d.x.signal(message, i, 4), NONE);
            d.due("signal, what -1", d.x.signal(message, i, -1), NONE);
        }
        d.due("signal behind the last", d.x.signal(message, due.length, 3), NONE);
        d.due("signal(-1)", d.x.signal(message, -1, 0), NONE);
    }

    /** The tape has as many bytes as this text, whatever was on it. */
    private static void decodes(Desk d, int message, String due) {
        d.feed("left behind");
        d.due("decode(" + message + ")", d.x.decode(message), due.length());
        d.due("cut", d.x.cut(due.length()), due.length());
        d.due("cut", d.x.cut(due.length() + 1), SignalBook.BAD);
    }

    private static void encoded() {
        Desk d = new Desk("encoded");
        d.told(TEXT, 0);
        encode(d, "a", 0);
        signals(d, 0, 0, new int[] {0, 0, 0});
        encode(d, " \nb\n12 a ab 0 b 000000007 ", 1);
        signals(d, 1, 0, new int[] {1, 0, 12}, new int[] {0, 0, 0}, new int[] {0, 1, 0}, new int[] {1, 0, 7});
        encode(d, "abcdefghij 999999999 a", 2);
        signals(d, 2, 0, new int[] {1, 2, 999999999}, new int[] {0, 0, 0});
        d.due("signal(3, 0, 0)", d.x.signal(3, 0, 0), NONE);
        d.due("signal(-1, 0, 0)", d.x.signal(-1, 0, 0), NONE);
        d.due("nothing starts", d.x.told(0, 2), 0);
        d.due("decode(3)", d.x.decode(3), NONE);
        d.due("decode(-1)", d.x.decode(-1), NONE);
    }

    private static void refused() {
        Desk d = new Desk("refused");
        d.told(TEXT, 0);
        String[] marked = {"|", "  \n|", "|1", "|1 a", "a 1 |2", "a |c", "a |A", "|h", "|t", "|go", "a |size", "a |enum",
            "a|,b", "a |;", "a |-1", "a |?", "a |1234567890", "a |1a", "a |abcdefghijk", "a 5 |\t", "|a1", "|(a)",
            "a\n|\u00e9"};
        for (String text : marked) {
            encodedBadly(d, text);
        }
        d.feed("a 5");
        d.due("encode(1)", d.x.encode(1), NONE);
        d.due("encode(-1)", d.x.encode(-1), NONE);
        d.due("the tape stays", d.x.cut(3), 3);
        d.due("encode(0)", d.x.encode(0), 0);
        signals(d, 0, 0, new int[] {0, 0, 5});
        d.due("wrong() is book()'s", d.x.wrong(), 0);
    }

    private static void sixty() {
        Desk d = new Desk("sixty");
        d.told(TEXT, 0);
        encode(d, "abcdefghij 123456789 ".repeat(60), 0);
        d.due("signal(0, 59, 1)", d.x.signal(0, 59, 1), 2);
        d.due("signal(0, 60, 1)", d.x.signal(0, 60, 1), NONE);
        encodedBadly(d, "b 1 ".repeat(60) + "|b");
        encodedBadly(d, "b ".repeat(60) + "|c");
        encodedBadly(d, "b ".repeat(60) + "1 |1 b");
        encode(d, "b ".repeat(60) + "1", 1);
        d.due("signal(1, 59, 2)", d.x.signal(1, 59, 2), 1);
        d.due("decode(0)", d.x.decode(0), 60 * 21 - 1);
        d.due("encode(0)", d.x.encode(0), 2);
        d.due("signal(2, 59, 2)", d.x.signal(2, 59, 2), 123456789);
        // what a refused text left behind is not in the next one
        encodedBadly(d, "a 7 a 8 |9");
        encode(d, "b a", 3);
        signals(d, 3, 0, new int[] {1, 0, 0}, new int[] {0, 0, 0});
    }

    private static void fullMessages() {
        Desk d = new Desk("full messages");
        d.told(TEXT, 0);
        for (int n = 0; n < 20; n++) {
            encodedBadly(d, "a |c");
            encode(d, "a " + (n + 1), n);
        }
        d.feed("a c");
        d.due("encode(0)", d.x.encode(0), FULL);
        d.due("encode(1)", d.x.encode(1), NONE);
        d.due("the tape stays", d.x.cut(3), 3);
        for (int n = 0; n < 20; n++) {
            d.due("signal(n, 0, 2)", d.x.signal(n, 0, 2), n + 1);
        }
        d.due("signal(20, 0, 0)", d.x.signal(20, 0, 0), NONE);
    }

    private static void decoded() {
        Desk d = new Desk("decoded");
        d.told(TEXT, 0);
        encode(d, " a  00 b 010\n\nabcdefghij 999999999 ab 1000 ", 0);
        decodes(d, 0, "a b 10 abcdefghij 999999999 ab 1000");
        d.due("encode(0)", d.x.encode(0), 1);
        signals(d, 1, 0, new int[] {0, 0, 0}, new int[] {1, 0, 10}, new int[] {1, 2, 999999999},
            new int[] {0, 1, 1000});
        encode(d, "b", 2);
        decodes(d, 2, "b");
        d.feed("a b");
        d.due("encode(0) of bab", d.x.encode(0), -10);
        // its parts, by cuts of it
        decodes(d, 0, "a b 10 abcdefghij 999999999 ab 1000");
        d.due("book()", d.x.book(), -10);
        d.due("wrong()", d.x.wrong(), 2);
        int[] cuts = {1, 3, 6, 17, 27, 30, 35};
        int[] counts = {1, 2, 2, 3, 3, 4, 4};
        int[] last = {0, 0, 10, 0, 999999999, 0, 1000};
        for (int k = 0; k < cuts.length; k++) {
            d.x.decode(0);
            d.x.cut(cuts[k]);
            int m = d.x.encode(0);
            d.due("a part of it", d.x.signal(m, counts[k] - 1, 2), last[k]);
            d.due("a part of it", d.x.signal(m, counts[k], 2), NONE);
        }
    }

    private static void editions() {
        Desk d = new Desk("editions");
        d.told("enum A{a,b;}", 0);
        d.told("enum A{b,a,c;}", 1);
        d.feed("a c");
        d.due("encode(0)", d.x.encode(0), -12);
        d.feed("a b");
        d.due("encode(0)", d.x.encode(0), 0);
        d.feed("a 3 c");
        d.due("encode(1)", d.x.encode(1), 1);
        signals(d, 0, 0, new int[] {0, 0, 0}, new int[] {0, 1, 0});
        signals(d, 1, 1, new int[] {0, 1, 3}, new int[] {0, 2, 0});
        decodes(d, 1, "a 3 c");
        decodes(d, 0, "a b");
        d.due("encode(1)", d.x.encode(1), 2);
        signals(d, 2, 1, new int[] {0, 1, 0}, new int[] {0, 0, 0});
    }
}
