import java.util.function.IntFunction;
import java.util.function.IntUnaryOperator;

/** A SignalBook under test: tells texts to it, and counts the answers that are not the due ones. */
final class Desk {
    private static final int MOST_LINES = 20;
    private static int wrong = 0;
    private static int checked = 0;
    private final String run;
    SignalBook x = new SignalBook();

    Desk(String run) {
        this.run = run;
    }

    /**
     * A run about one sentence of the document, in its own words: of Promise n, or (0) of what stands ahead of
     * them all. SentencesTest looks these up, and wants each sentence to be here.
     */
    static Desk on(int promise, String sentence) {
        return new Desk((promise == 0 ? "Terms" : "Promise " + promise) + ", " + sentence);
    }

    void due(String call, long got, long want) {
        checked++;
        if (got != want) {
            wrong++;
            if (wrong <= MOST_LINES) {
                System.out.println(run + ": " + call + " answered " + got + ", due is " + want);
            }
        }
    }

    /** Puts a text behind the tape's, eight bytes a call as long as there are so many. */
    void feed(String text) {
        for (int from = 0; from < text.length(); from += 8) {
            int n = Math.min(8, text.length() - from);
            long w = 0;
            for (int k = 0; k < n; k++) {
                w = w << 8 | text.charAt(from + k) & 255;
            }
            x.feed(w, n);
        }
    }

    int book(String text) {
        feed(text);
        return x.book();
    }

    /** The text is a BOOK, and has this number. */
    void told(String text, int number) {
        due("book() of " + text, book(text), number);
        due("wrong() of " + text, x.wrong(), 0);
    }

    /** The text has this FAULT at this place. */
    void fault(String text, int kind, int place) {
        due("book() of " + text, book(text), -10 - place);
        due("wrong() of " + text, x.wrong(), kind);
        due("cut(1) behind " + text, x.cut(1), SignalBook.BAD);
    }

    /** The FAULT stands at the sign | of the text, which is not told. */
    void faultAtMark(String marked, int kind) {
        int place = marked.indexOf('|');
        fault(marked.substring(0, place) + marked.substring(place + 1), kind, place);
    }

    /** CAUSES of the latest FAILURE, a kind and an ITEM each. */
    void causes(int... kindsAndItems) {
        for (int i = 0; i * 2 < kindsAndItems.length; i++) {
            due("cause(" + i + ", 0)", x.cause(i, 0), kindsAndItems[2 * i]);
            due("cause(" + i + ", 1)", x.cause(i, 1), kindsAndItems[2 * i + 1]);
        }
        due("cause() behind the last", x.cause(kindsAndItems.length / 2, 0), SignalBook.NONE);
        due("cause() behind the last", x.cause(kindsAndItems.length / 2, 1), SignalBook.NONE);
    }

    /** An act answered 0, and gave this. */
    void gave(String call, int answer, int out) {
        due(call, answer, 0);
        due("out() of " + call, x.out(), out);
    }

    /** STARTS of a BOOK, all of them. */
    void starts(int b, int... items) {
        due("told(b, 2)", x.told(b, 2), items.length);
        for (int i = 0; i < items.length; i++) {
            due("start(" + i + ")", x.start(b, i), items[i]);
        }
        due("start() behind the last", x.start(b, items.length), SignalBook.NONE);
    }

    /** SEEN of a BOOK, all of them: the ITEM UNDER WAY and the one that was read, each. */
    void seen(int b, int... byAndOf) {
        int count = byAndOf.length / 2;
        due("told(b, 3)", x.told(b, 3), count);
        for (int i = 0; i < count; i++) {
            due("seen(" + i + ", 0)", x.seen(b, i, 0), byAndOf[2 * i]);
            due("seen(" + i + ", 1)", x.seen(b, i, 1), byAndOf[2 * i + 1]);
        }
        due("seen() behind the last", x.seen(b, count, 0), SignalBook.NONE);
    }

    /** Each of these numbers makes the call answer NONE. */
    void none(String call, IntUnaryOperator asked, int... wrongOnes) {
        for (int n : wrongOnes) {
            due(call + " of " + n, asked.applyAsInt(n), SignalBook.NONE);
        }
    }

    /** Numbers beside 0 .. count - 1: the nearest, the farthest, and some that a mask or a row's end could let in. */
    static int[] beside(int count) {
        return new int[] {-1, -2, Integer.MIN_VALUE, count, count + 1, count + 32, 1 << 24, Integer.MAX_VALUE};
    }

    static String row(int n, String between, IntFunction<String> part) {
        StringBuilder all = new StringBuilder();
        for (int k = 0; k < n; k++) {
            all.append(k == 0 ? "" : between).append(part.apply(k));
        }
        return all.toString();
    }

    static void end() {
        System.out.println(wrong == 0 ? checked + " answers are as due" : wrong + " answers are not as due");
        if (wrong != 0) {
            System.exit(1);
        }
    }
}
