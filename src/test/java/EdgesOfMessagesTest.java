/** The sentences about MESSAGES (Promises 29 to 31), each at its edges. */
public final class EdgesOfMessagesTest {
    private static final int NONE = SignalBook.NONE, FULL = SignalBook.FULL, BAD = SignalBook.BAD;
    private static final String TEXT = "enum A{a,ab,A;holder h=1;table t=[1];switch s{else:1;}act go=1;check 0;}"
        + "enum B{b,a,abcdefghij;}enum C{b,h,c(1/0);}";

    public static void main(String[] args) {
        message();
        numbered();
        encode();
        encodeRefused();
        encodeNone();
        encodeStartsNothing();
        signal();
        signalNone();
        decode();
        decodeNone();
        Desk.end();
    }

    private static void encoded(Desk d, String text, int answer) {
        d.x.cut(0);
        d.feed(text);
        d.due("encode(0) of " + text, d.x.encode(0), answer);
        d.due("the tape is empty behind " + text, d.x.cut(1), BAD);
    }

    private static void refused(Desk d, String marked) {
        int place = marked.indexOf('|');
        encoded(d, marked.substring(0, place) + marked.substring(place + 1), -10 - place);
    }

    /** The SIGNALS of a MESSAGE, all of them: enum, ORDINAL, ADDED each. */
    private static void signals(Desk d, int message, int book, int... due) {
        int count = due.length / 3;
        for (int i = 0; i < count; i++) {
            for (int what = 0; what < 3; what++) {
                d.due("signal(" + message + ", " + i + ", " + what + ")", d.x.signal(message, i, what), due[3 * i
                    + what]);
            }
            d.due("signal(" + message + ", " + i + ", 3)", d.x.signal(message, i, 3), book);
        }
        for (int what = 0; what < 4; what++) {
            d.due("signal(" + message + ", " + count + ", " + what + ")", d.x.signal(message, count, what), NONE);
        }
    }

    /** The tape is this text: as long as it, and read as it is, in each of its parts too. */
    private static void decoded(Desk d, int message, String due) {
        d.feed("left behind");
        d.due("decode(" + message + ")", d.x.decode(message), due.length());
        d.due("no byte more", d.x.cut(due.length() + 1), BAD);
        for (int k = Math.max(0, due.length() - 40); k <= due.length(); k++) {
            d.due("decode(" + message + ")", d.x.decode(message), due.length());
            d.due("cut(" + k + ")", d.x.cut(k), k);
            d.feed("?");
            int answer = d.x.encode(0);
            d.feed(due.substring(0, k) + "?");
            d.due("the text up to byte " + k + " of " + due, answer, d.x.encode(0));
        }
    }

    private static void message() {
        Desk d = Desk.on(0, "A MESSAGE is a text of TOKENS: one SIGNAL or more, 60 at most, each the NAME of a"
            + " constant of the BOOK (of several enums with it the first one), perhaps with a NUMBER behind it, its"
            + " ADDED (0 without).");
        d.told(TEXT, 0);
        refused(d, "|");
        encoded(d, "b", 0);
        signals(d, 0, 0, 1, 0, 0);
        encoded(d, "a b ab h abcdefghij A", 1);
        signals(d, 1, 0, 0, 0, 0, 1, 0, 0, 0, 1, 0, 2, 1, 0, 1, 2, 0, 0, 2, 0);
        encoded(d, "\n a\n5  b 000000000 a 999999999 a 0 c 1\n", 2);
        signals(d, 2, 0, 0, 0, 5, 1, 0, 0, 0, 0, 999999999, 0, 0, 0, 2, 2, 1);
        encoded(d, "a ".repeat(60), 3);
        d.due("the sixtieth", d.x.signal(3, 59, 1), 0);
        d.due("one more", d.x.signal(3, 60, 1), NONE);
        encoded(d, "a 1 ".repeat(59) + "b 7", 4);
        d.due("the sixtieth", d.x.signal(4, 59, 2), 7);
        d.due("the first", d.x.signal(4, 0, 2), 1);
        refused(d, "a ".repeat(60) + "|a");
        // a NAME and the NUMBER behind it are TOKENS of their own, or one that is another NAME
        refused(d, "|a5");
        refused(d, "a 5 |5");
        refused(d, "|5 a");
    }

    private static void numbered() {
        Desk d = Desk.on(0, "MESSAGES are numbered from 0 on, 20 at most; each stays with its BOOK.");
        d.told("enum A{a,b;}", 0);
        d.told("enum A{c,b,a;}", 1);
        for (int n = 0; n < 20; n++) {
            d.feed("a " + n + " b");
            d.due("encode(" + n % 2 + ")", d.x.encode(n % 2), n);
        }
        d.feed("a");
        d.due("one more", d.x.encode(0), FULL);
        for (int n = 0; n < 20; n++) {
            signals(d, n, n % 2, 0, n % 2 == 0 ? 0 : 2, n, 0, 1, 0);
        }
        d.due("decode(19)", d.x.decode(19), 6);
        d.due("decode(0)", d.x.decode(0), 3);
    }

    private static void encode() {
        Desk d = Desk.on(29, "THE TAPE, which is empty then (not with NONE, FULL), is a MESSAGE of a BOOK: its"
            + " number;");
        d.told(TEXT, 0);
        encoded(d, "a", 0);
        d.due("the tape is fed anew", d.x.feed('b', 1), 1);
        d.due("encode(0)", d.x.encode(0), 1);
        signals(d, 1, 0, 1, 0, 0);
        refused(d, "a |x");
        encoded(d, "ab 3", 2);
        signals(d, 2, 0, 0, 1, 3);
        signals(d, 0, 0, 0, 0, 0);
        // a text of 3000 bytes, and one that was cut
        encoded(d, " ".repeat(2988) + "abcdefghij 9", 3);
        signals(d, 3, 0, 1, 2, 9);
        d.feed("a 12 ?");
        d.due("cut(3)", d.x.cut(3), 3);
        d.due("encode(0)", d.x.encode(0), 4);
        signals(d, 4, 0, 0, 0, 1);
    }

    private static void encodeRefused() {
        Desk d = Desk.on(29, "-10 less the place of the first TOKEN that can't be there (or is none; the end of a"
            + " text without SIGNALS; the NAME of the 61st SIGNAL).");
        d.told(TEXT, 0);
        String[] marked = {"|", " |", "\n\n|", "|5", "|5 a", "a 5 |6", "a 5 |6 7", "a |x", "a |B", "a |t", "a |s",
            "a |go", "|x", "|enum", "a |ord 5", "a |size", "a|,b", "a|;", "a |- 5", "a |-5", "a 5|.", "|(a)", "|?",
            "a |?", "a 5 |?", "a |\t", "a |1234567890", "a |1x", "a |abcdefghijk", "a |aB", "a |AB", "a b |\u00e9 x",
            "A|.a", "a 1 b 2 |3"};
        for (String text : marked) {
            refused(d, text);
        }
        refused(d, " ".repeat(3000) + "|");
        refused(d, " ".repeat(2999) + "|x");
        refused(d, "a ".repeat(60) + "|a 5 ?");
        refused(d, "a 1 ".repeat(60) + "|b");
        refused(d, "a 1 ".repeat(60) + "|x");
        refused(d, "a ".repeat(60) + "|?");
        refused(d, "a ".repeat(60) + "5 |5");
        refused(d, "a ".repeat(59) + "|x " + "a ".repeat(9));
        d.due("none of these is a MESSAGE", d.x.signal(0, 0, 3), NONE);
        encoded(d, "a ".repeat(60) + "5 \n", 0);
        d.due("the sixtieth's ADDED", d.x.signal(0, 59, 2), 5);
        // nothing of a refused text is in the next one
        refused(d, "b 7 ab 8 b 9 |9");
        encoded(d, "b a", 1);
        signals(d, 1, 0, 1, 0, 0, 0, 0, 0);
    }

    private static void encodeNone() {
        Desk d = Desk.on(29, "NONE; FULL: 20.");
        d.feed("a");
        d.none("encode(b) without BOOKS", b -> d.x.encode(b), Desk.beside(0));
        d.due("the tape stays", d.x.cut(1), 1);
        d.x.cut(0);
        d.told(TEXT, 0);
        d.feed("a ?");
        d.none("encode(b)", b -> d.x.encode(b), Desk.beside(1));
        d.due("the tape stays", d.x.cut(3), 3);
        for (int n = 0; n < 20; n++) {
            refused(d, "a |?");
            encoded(d, "a", n);
        }
        d.due("an empty tape", d.x.encode(0), FULL);
        d.feed("a ?");
        d.due("FULL", d.x.encode(0), FULL);
        d.none("NONE is told ahead of FULL", b -> d.x.encode(b), Desk.beside(1));
        d.due("the tape stays", d.x.cut(3), 3);
        d.due("signal(19, 0, 3)", d.x.signal(19, 0, 3), 0);
        d.due("signal(20, 0, 3)", d.x.signal(20, 0, 3), NONE);
    }

    private static void encodeStartsNothing() {
        Desk d = Desk.on(29, "Nothing starts.");
        d.told(TEXT, 0);
        encoded(d, "a b c", 0);
        d.due("decode(0)", d.x.decode(0), 5);
        d.due("signal", d.x.signal(0, 2, 0), 2);
        d.starts(0);
        d.seen(0);
        d.due("no FAILURE", d.x.cause(0, 0), NONE);
        // the constants of a BAD enum have their NAMES still
        d.due("use", d.x.use(0, 0), SignalBook.FAILED);
        encoded(d, "a", 1);
        d.causes(1, 0, 3, NONE);
    }

    private static void signal() {
        Desk d = Desk.on(30, "SIGNAL i of a MESSAGE: what 0 its enum, 1 its ORDINAL, 2 its ADDED, 3 the MESSAGE's"
            + " BOOK.");
        d.told("enum X{x;}", 0);
        d.told(TEXT, 1);
        d.feed("c 8 abcdefghij");
        d.due("encode(1)", d.x.encode(1), 0);
        signals(d, 0, 1, 2, 2, 8, 1, 2, 0);
        d.feed("x 3");
        d.due("encode(0)", d.x.encode(0), 1);
        signals(d, 1, 0, 0, 0, 3);
        signals(d, 0, 1, 2, 2, 8, 1, 2, 0);
    }

    private static void signalNone() {
        Desk d = Desk.on(30, "NONE.");
        d.told(TEXT, 0);
        d.none("signal(message, 0, 3) ahead of all", message -> d.x.signal(message, 0, 3), -1, 0, 1);
        encoded(d, "c 8 a", 0);
        encoded(d, "a ".repeat(60), 1);
        for (int what = 0; what < 4; what++) {
            int asked = what;
            d.none("signal(0, i, " + what + ")", i -> d.x.signal(0, i, asked), Desk.beside(2));
            d.none("signal(1, i, " + what + ")", i -> d.x.signal(1, i, asked), Desk.beside(60));
            d.none("signal(message, 0, " + what + ")", message -> d.x.signal(message, 0, asked), Desk.beside(2));
        }
        d.none("signal(0, 0, what)", what -> d.x.signal(0, 0, what), Desk.beside(4));
    }

    private static void decode() {
        Desk d = Desk.on(31, "THE TAPE is the MESSAGE: NAMES, ADDED (if not 0) with a blank ahead of each but the"
            + " first: how many bytes.");
        d.told(TEXT, 0);
        String[] texts = {"a", "a 0", " \na\n", "a 1", "a 9 b", "a 10", "ab 99 A", "a 100 b 0 a 007",
            "abcdefghij 999999999", "a 100000000 b 123456789", "a 1000000 a 10000 a 10",
            "abcdefghij 999999999 ".repeat(60)};
        String[] due = {"a", "a", "a", "a 1", "a 9 b", "a 10", "ab 99 A", "a 100 b a 7", "abcdefghij 999999999",
            "a 100000000 b 123456789", "a 1000000 a 10000 a 10", "abcdefghij 999999999 ".repeat(60).trim()};
        for (int n = 0; n < texts.length; n++) {
            encoded(d, texts[n], n);
        }
        for (int n = 0; n < texts.length; n++) {
            decoded(d, n, due[n]);
        }
        // what was decoded is the same MESSAGE again
        for (int n = 3; n < 11; n++) {
            d.x.decode(n);
            int again = d.x.encode(0);
            d.due("encode(0)", again, texts.length + n - 3);
            for (int i = 0; i < 4; i++) {
                for (int what = 0; what < 4; what++) {
                    d.due("signal of " + due[n], d.x.signal(again, i, what), d.x.signal(n, i, what));
                }
            }
        }
    }

    private static void decodeNone() {
        Desk d = Desk.on(31, "NONE.");
        d.feed("left");
        d.none("decode(message) ahead of all", message -> d.x.decode(message), Desk.beside(0));
        d.due("the tape stays", d.x.cut(4), 4);
        d.x.cut(0);
        d.told(TEXT, 0);
        encoded(d, "a", 0);
        d.feed("left");
        d.none("decode(message)", message -> d.x.decode(message), Desk.beside(1));
        d.due("the tape stays", d.x.cut(4), 4);
        d.due("the tape stays", d.x.cut(5), BAD);
        d.due("decode(0)", d.x.decode(0), 1);
    }
}
