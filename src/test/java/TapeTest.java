/** Promises 1 to 3: a new object, feed, cut. */
public final class TapeTest {
    public static void main(String[] args) {
        newObject();
        feeding();
        cutting();
        Desk.end();
    }

    private static void newObject() {
        Desk d = new Desk("new");
        d.due("told(0, 0)", d.x.told(0, 0), -1);
        d.due("told(-1, 0)", d.x.told(-1, 0), -1);
        d.due("wrong()", d.x.wrong(), 0);
        d.due("out()", d.x.out(), 0);
        d.due("cause(0, 0)", d.x.cause(0, 0), -1);
        d.due("member(0, -1)", d.x.member(0, -1), -1);
        d.due("get(0, 0)", d.x.get(0, 0), -1);
        d.due("signal(0, 0, 3)", d.x.signal(0, 0, 3), -1);
        d.due("cut(0)", d.x.cut(0), 0);
        d.due("cut(1)", d.x.cut(1), SignalBook.BAD);
        d.due("use(0, 0)", d.x.use(0, 0), SignalBook.NONE);
        d.due("decode(0)", d.x.decode(0), SignalBook.NONE);
        d.due("encode(0)", d.x.encode(0), SignalBook.NONE);
    }

    private static void feeding() {
        Desk d = new Desk("feed");
        d.due("feed(0, 0)", d.x.feed(0, 0), SignalBook.BAD);
        d.due("feed(0, 9)", d.x.feed(0, 9), SignalBook.BAD);
        d.due("feed(0, -1)", d.x.feed(0, -1), SignalBook.BAD);
        d.due("feed(0, MIN)", d.x.feed(0, Integer.MIN_VALUE), SignalBook.BAD);
        d.due("feed(0, MAX)", d.x.feed(0, Integer.MAX_VALUE), SignalBook.BAD);
        // "enum A{aZ;}", the bytes above the n lowest ones being no part of it
        d.due("feed 3", d.x.feed(0xffffffffff656e75L, 3), 3);
        d.due("feed 1", d.x.feed(0xabababababab006dL, 1), 4);
        d.due("feed 8", d.x.feed(0x20417b615a3b7d20L, 8), 12);
        d.due("book()", d.x.book(), 0);
        d.due("letter", d.x.letter(0, 0, 0, 0), 'a');
        d.due("letter", d.x.letter(0, 0, 0, 1), 'Z');
        d.due("letter", d.x.letter(0, 0, 0, 2), -1);
        fullTape();
    }

    private static void fullTape() {
        Desk d = new Desk("full tape");
        for (int n = 1; n <= 374; n++) {
            d.due("feed", d.x.feed(0x2020202020202020L, 8), 8 * n);
        }
        d.due("feed(1)", d.x.feed(' ', 1), 2993);
        d.due("feed(8)", d.x.feed(' ', 8), SignalBook.FULL);
        d.due("feed(9)", d.x.feed(' ', 9), SignalBook.BAD);
        d.due("cut(2994)", d.x.cut(2994), SignalBook.BAD);
        d.due("feed(7)", d.x.feed(0x20202020202020L, 7), 3000);
        d.due("feed(1)", d.x.feed(' ', 1), SignalBook.FULL);
        d.due("book()", d.x.book(), -10 - 3000);
        d.due("wrong()", d.x.wrong(), 2);
        d.due("feed(1)", d.x.feed(' ', 1), 1);
        d.x.cut(0);
        d.fault(";".repeat(3000), 2, 0);
        d.fault("?".repeat(3000), 1, 0);
        d.told("enum A{a;}", 0);
        d.feed(";".repeat(3000));
        d.due("encode(0)", d.x.encode(0), -10);
    }

    private static void cutting() {
        Desk d = new Desk("cut");
        d.feed("enum A{a;}};");
        d.due("cut(-1)", d.x.cut(-1), SignalBook.BAD);
        d.due("cut(13)", d.x.cut(13), SignalBook.BAD);
        d.due("cut(MIN)", d.x.cut(Integer.MIN_VALUE), SignalBook.BAD);
        d.due("cut(12)", d.x.cut(12), 12);
        d.due("cut(8)", d.x.cut(8), 8);
        d.due("feed", d.x.feed(';', 1), 9);
        d.due("cut(8)", d.x.cut(8), 8);
        d.feed(",z;}");
        d.due("book()", d.x.book(), 0);
        d.due("about", d.x.about(0, 0, 0), 2);
        d.feed("enum A{a;}");
        d.due("cut(0)", d.x.cut(0), 0);
        d.due("book()", d.x.book(), -10);
    }
}
