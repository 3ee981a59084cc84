import java.util.Arrays;

/** A codebook of enumerations told as a text; the numbered promises are those of DOC.md. */
public final class SignalBook {
    public static final int NONE = -1, FULL = -2, FAILED = -3, BAD = -4;

    private static final int TAPE_BYTES = 3000;
    private static final int MAX_BOOKS = 10;
    private static final int MAX_SETS = 40;
    private static final int MAX_MAPS = 10;
    private static final int MAX_MESSAGES = 20;
    private static final int MAX_SIGNALS = 60;
    private static final int MAX_ENUMS = 12;
    private static final int MAX_CONSTANTS = 24;
    private static final int MAX_ACTS = 4;
    private static final int MAX_TABLES = 4;
    private static final int MAX_ENTRIES = 12;
    private static final int MAX_CHECKS = 3;
    private static final int MAX_HOLDERS = 4;
    private static final int MAX_SWITCHES = 3;
    private static final int MAX_CASES = 12;
    private static final int MAX_NESTING = 12;
    private static final int MAX_UNDER_WAY = 12;
    private static final int FIRST_HOLDER_ITEM = 100;
    private static final int END_OF_ITEMS = FIRST_HOLDER_ITEM + MAX_ENUMS * MAX_HOLDERS;
    /** Answers of a refused text lie at this number and below it, by the place. */
    private static final int FAULT_BASE = -10;
    private static final int NO_CODE = -1;

    private final byte[] tape;
    private int tapeLength;
    private final Tokens tokens;
    private final Reader reader;
    private final Worker worker;
    private final Book[] books;
    private int bookCount;
    private int latestFault;
    private int latestOut;
    private final Selection[] sets;
    private int setCount;
    private final Selection[] maps;
    private int mapCount;
    private final Message[] messages;
    private int messageCount;
    /** The next MESSAGE's rows: a refused text leaves them for the one after it. */
    private Message draft;

    public SignalBook() {
        tape = new byte[TAPE_BYTES];
        tokens = new Tokens();
        reader = new Reader(tokens);
        worker = new Worker();
        books = new Book[MAX_BOOKS];
        sets = new Selection[MAX_SETS];
        maps = new Selection[MAX_MAPS];
        messages = new Message[MAX_MESSAGES];
        draft = new Message();
    }

    // ---- the tape, books

    public int feed(long w, int n) {
        if (n < 1 || n > 8) {
            return BAD;
        }
        if (tapeLength + n > TAPE_BYTES) {
            return FULL;
        }
        for (int k = n - 1; k >= 0; k--) {
            putByte((int) (w >>> (8 * k)));
        }
        return tapeLength;
    }

    public int cut(int n) {
        if (n < 0 || n > tapeLength) {
            return BAD;
        }
        tapeLength = n;
        return n;
    }

    public int book() {
        if (bookCount >= MAX_BOOKS) {
            return FULL;
        }
        tokens.cutUp(tape, tapeLength);
        tapeLength = 0;
        Book told = reader.readBook();
        latestFault = reader.fault;
        if (told == null) {
            return FAULT_BASE - reader.faultPlace;
        }
        books[bookCount] = told;
        bookCount++;
        return bookCount - 1;
    }

    public int wrong() {
        return latestFault;
    }

    public int told(int b, int what) {
        Book told = bookAt(b);
        if (told == null) {
            return NONE;
        }
        switch (what) {
            case 0: return told.enumCount;
            case 1: return told.actCount;
            case 2: return told.startCount;
            case 3: return told.seenCount;
            default: return NONE;
        }
    }

    public int about(int b, int e, int what) {
        Enumeration of = enumOf(b, e);
        if (of == null) {
            return NONE;
        }
        switch (what) {
            case 0: return of.constantCount;
            case 1: return of.tableCount;
            case 2: return of.checkCount;
            case 3: return of.holderCount;
            case 4: return of.switchCount;
            default: return NONE;
        }
    }

    public int state(int b, int item) {
        Book told = bookAt(b);
        if (told == null || !told.hasItem(item)) {
            return NONE;
        }
        return told.stateOf(item);
    }

    public int letter(int b, int e, int i, int k) {
        Enumeration of = enumOf(b, e);
        if (of == null) {
            return NONE;
        }
        if (i == -1) {
            return letterOf(of.name, k);
        }
        Constant one = of.constantAt(i);
        return one == null ? NONE : letterOf(one.name, k);
    }

    public int body(int b, int e, int i, int act) {
        Enumeration of = enumOf(b, e);
        if (of == null) {
            return NONE;
        }
        Constant one = of.constantAt(i);
        if (one == null && i != -1) {
            return NONE;
        }
        if (!hasAct(b, act)) {
            return NONE;
        }
        int[] bodies = one == null ? of.bodies : one.bodies;
        return bodies[act] == NO_CODE ? 0 : 1;
    }

    // ---- acts that use enums and holders

    public int use(int b, int e) {
        if (enumOf(b, e) == null) {
            return NONE;
        }
        return usedWell(b, e) ? 0 : FAILED;
    }

    public int argument(int b, int e, int i) {
        Enumeration of = enumOf(b, e);
        Constant one = of == null ? null : of.constantAt(i);
        if (one == null) {
            return NONE;
        }
        if (!usedWell(b, e)) {
            return FAILED;
        }
        latestOut = one.argument;
        return 0;
    }

    public int act(int b, int e, int i, int act) {
        Enumeration of = enumOf(b, e);
        if (of == null || of.constantAt(i) == null || !hasAct(b, act)) {
            return NONE;
        }
        if (!usedWell(b, e)) {
            return FAILED;
        }
        return giveOut(worker.perform(of, i, act));
    }

    public int entry(int b, int e, int t, int k) {
        Enumeration of = enumOf(b, e);
        Table table = of == null ? null : of.tableAt(t);
        if (table == null || k < 0 || k >= table.entryCount) {
            return NONE;
        }
        if (!usedWell(b, e)) {
            return FAILED;
        }
        latestOut = table.entries[k];
        return 0;
    }

    public int holder(int b, int e, int h) {
        Enumeration of = enumOf(b, e);
        if (of == null || h < 0 || h >= of.holderCount) {
            return NONE;
        }
        if (!usedWell(b, FIRST_HOLDER_ITEM + e * MAX_HOLDERS + h)) {
            return FAILED;
        }
        latestOut = of.holderValues[h];
        return 0;
    }

    public int branch(int b, int e, int s, int i) {
        Enumeration of = enumOf(b, e);
        Switch chosen = of == null ? null : of.switchAt(s);
        if (of == null || chosen == null || of.constantAt(i) == null) {
            return NONE;
        }
        if (!usedWell(b, e)) {
            return FAILED;
        }
        return giveOut(worker.choose(of, chosen, i));
    }

    public int out() {
        return latestOut;
    }

    public int cause(int i, int what) {
        if (what == 0) {
            return worker.causeKind(i);
        }
        return what == 1 ? worker.causeItem(i) : NONE;
    }

    public int start(int b, int i) {
        Book told = bookAt(b);
        if (told == null || i < 0 || i >= told.startCount) {
            return NONE;
        }
        return told.starts[i];
    }

    public int seen(int b, int i, int what) {
        Book told = bookAt(b);
        if (told == null || i < 0 || i >= told.seenCount) {
            return NONE;
        }
        if (what == 0) {
            return told.seenBy[i];
        }
        return what == 1 ? told.seenOf[i] : NONE;
    }

    // ---- sets, maps

    public int set(int b, int e) {
        if (enumOf(b, e) == null) {
            return NONE;
        }
        if (setCount >= MAX_SETS) {
            return FULL;
        }
        if (!usedWell(b, e)) {
            return FAILED;
        }
        return keepSet(new Selection(b, e, 0));
    }

    public int add(int set, int i) {
        Selection in = setAt(set);
        if (in == null || !isConstant(in, i)) {
            return NONE;
        }
        return in.include(i) ? 1 : 0;
    }

    public int take(int set, int i) {
        Selection from = setAt(set);
        if (from == null || !isConstant(from, i)) {
            return NONE;
        }
        return from.exclude(i) ? 1 : 0;
    }

    public int join(int a, int b, int how) {
        Selection first = setAt(a);
        Selection second = setAt(b);
        if (first == null || second == null) {
            return NONE;
        }
        if (first.book != second.book || first.enumNumber != second.enumNumber || how < 0 || how > 3) {
            return BAD;
        }
        if (setCount >= MAX_SETS) {
            return FULL;
        }
        return keepSet(new Selection(first.book, first.enumNumber, joined(first.bits, second.bits, how)));
    }

    public int member(int set, int k) {
        Selection in = setAt(set);
        if (in == null) {
            return NONE;
        }
        return k == -1 ? Integer.bitCount(in.bits) : in.ordinalAt(k);
    }

    public int map(int b, int e) {
        if (enumOf(b, e) == null) {
            return NONE;
        }
        if (mapCount >= MAX_MAPS) {
            return FULL;
        }
        if (!usedWell(b, e)) {
            return FAILED;
        }
        Selection made = new Selection(b, e, 0);
        made.values = new int[MAX_CONSTANTS];
        maps[mapCount] = made;
        mapCount++;
        return mapCount - 1;
    }

    public int put(int map, int i, int v) {
        Selection in = mapAt(map);
        if (in == null || !isConstant(in, i)) {
            return NONE;
        }
        in.values[i] = v;
        return in.include(i) ? 1 : 0;
    }

    public int get(int map, int i) {
        Selection in = mapAt(map);
        if (in == null || !isConstant(in, i)) {
            return NONE;
        }
        if (!in.contains(i)) {
            return 0;
        }
        latestOut = in.values[i];
        return 1;
    }

    // ---- messages

    public int encode(int b) {
        Book told = bookAt(b);
        if (told == null) {
            return NONE;
        }
        if (messageCount >= MAX_MESSAGES) {
            return FULL;
        }
        tokens.cutUp(tape, tapeLength);
        tapeLength = 0;
        int wrongToken = draft.readFrom(tokens, told);
        if (wrongToken >= 0) {
            return FAULT_BASE - tokens.places[wrongToken];
        }
        draft.book = b;
        messages[messageCount] = draft;
        messageCount++;
        draft = new Message();
        return messageCount - 1;
    }

    public int signal(int message, int i, int what) {
        Message sent = messageAt(message);
        if (sent == null || i < 0 || i >= sent.count) {
            return NONE;
        }
        switch (what) {
            case 0: return sent.enums[i];
            case 1: return sent.ordinals[i];
            case 2: return sent.added[i];
            case 3: return sent.book;
            default: return NONE;
        }
    }

    public int decode(int message) {
        Message sent = messageAt(message);
        if (sent == null) {
            return NONE;
        }
        tapeLength = 0;
        for (int i = 0; i < sent.count; i++) {
            if (i > 0) {
                putByte(' ');
            }
            putName(nameOf(sent, i));
            if (sent.added[i] != 0) {
                putByte(' ');
                putNumber(sent.added[i]);
            }
        }
        return tapeLength;
    }

    // ---- what the calls share

    private void putByte(int sign) {
        if (tapeLength < TAPE_BYTES) {
            tape[tapeLength] = (byte) sign;
            tapeLength++;
        }
    }

    private void putName(long name) {
        int length = Tokens.lengthOfName(name);
        for (int k = 0; k < length; k++) {
            putByte(Tokens.signOfName(name, k));
        }
    }

    /** An ADDED is never below 0: no text tells one so. */
    private void putNumber(int number) {
        int weight = 1;
        for (int digits = 1; digits < Tokens.MAX_DIGITS && number / weight >= 10; digits++) {
            weight *= 10;
        }
        for (int left = weight; left > 0; left /= 10) {
            putByte('0' + number / left % 10);
        }
    }

    private long nameOf(Message sent, int i) {
        Enumeration of = enumOf(sent.book, sent.enums[i]);
        Constant one = of == null ? null : of.constantAt(sent.ordinals[i]);
        return one == null ? 0 : one.name;
    }

    private static int letterOf(long name, int k) {
        return k < 0 || k >= Tokens.lengthOfName(name) ? NONE : Tokens.signOfName(name, k);
    }

    private Book bookAt(int b) {
        return b < 0 || b >= bookCount ? null : books[b];
    }

    private Enumeration enumOf(int b, int e) {
        Book told = bookAt(b);
        return told == null ? null : told.enumAt(e);
    }

    private boolean hasAct(int b, int act) {
        Book told = bookAt(b);
        return told != null && act >= 0 && act < told.actCount;
    }

    private Selection setAt(int set) {
        return set < 0 || set >= setCount ? null : sets[set];
    }

    private Selection mapAt(int map) {
        return map < 0 || map >= mapCount ? null : maps[map];
    }

    private Message messageAt(int message) {
        return message < 0 || message >= messageCount ? null : messages[message];
    }

    private boolean isConstant(Selection in, int i) {
        Enumeration of = enumOf(in.book, in.enumNumber);
        return of != null && of.constantAt(i) != null;
    }

    private int keepSet(Selection made) {
        sets[setCount] = made;
        setCount++;
        return setCount - 1;
    }

    private static int joined(int a, int b, int how) {
        switch (how) {
            case 0: return a | b;
            case 1: return a & b;
            case 2: return a & ~b;
            default: return a ^ b;
        }
    }

    private boolean usedWell(int b, int item) {
        Book told = bookAt(b);
        return told != null && worker.beginWith(told, item);
    }

    private int giveOut(int value) {
        if (worker.failing) {
            return FAILED;
        }
        latestOut = value;
        return 0;
    }

    /** The TOKENS of one text, in rows that all texts share in turn; the text's end stands last. */
    private static final class Tokens {
        /** Kinds of TOKENS; a sign's kind is its byte, which lies above all of these. */
        static final int NO_TOKEN = 0, END = 1, NUMBER = 2, NAME = 3;
        /** The KEYWORDS' kinds, in the order of their text below. */
        static final int ENUM = 4, ACT = 5, TABLE = 6, CHECK = 7, HOLDER = 8, SWITCH = 9,
            CASE = 10, ELSE = 11, VALUE = 12, ORD = 13, SIZE = 14, ABOVE = 15;
        static final int MAX_DIGITS = 9;
        private static final int MAX_SIGNS = 10;
        private static final int KEYWORD_COUNT = 12;
        private static final String KEYWORDS =
            "enum act table check holder switch case else value ord size above ";
        private static final String SIGNS = "{}()[],;:=+-*./";
        private static final String ALPHABET =
            "abcdefghijklmnopqrstuvwxyzABCDEFGHIJKLMNOPQRSTUVWXYZ0123456789";

        final int[] kinds = new int[TAPE_BYTES + 1];
        final int[] places = new int[TAPE_BYTES + 1];
        /** A NUMBER's value; a WORD packed, six bits a sign, so that two are alike if these are. */
        final long[] values = new long[TAPE_BYTES + 1];
        /** How many there are, the end with them: never 0 behind cutUp. */
        int count = 1;
        private final long[] keywords = new long[KEYWORD_COUNT];

        Tokens() {
            long word = 0;
            int k = 0;
            for (int at = 0; at < KEYWORDS.length(); at++) {
                int rank = rankOf(KEYWORDS.charAt(at));
                if (rank > 0) {
                    word = word * 64 + rank;
                } else if (k < KEYWORD_COUNT) {
                    keywords[k] = word;
                    k++;
                    word = 0;
                }
            }
        }

        void cutUp(byte[] text, int length) {
            count = 0;
            for (int at = 0; at < length; at++) {
                int sign = text[at] & 255;
                if (rankOf(sign) > 0) {
                    int end = rowEnd(text, at, length);
                    keepRow(text, at, end);
                    at = end - 1;
                } else if (sign != ' ' && sign != '\n') {
                    keep(SIGNS.indexOf((char) sign) >= 0 ? sign : NO_TOKEN, at, 0);
                }
            }
            keep(END, length, 0);
        }

        static int lengthOfName(long name) {
            int length = 0;
            for (long rest = name; rest > 0; rest >>>= 6) {
                length++;
            }
            return length;
        }

        /** The byte at k, which lies within the NAME. */
        static int signOfName(long name, int k) {
            int rank = (int) (name >>> (6 * (lengthOfName(name) - 1 - k))) & 63;
            return rank < 1 || rank > ALPHABET.length() ? 0 : ALPHABET.charAt(rank - 1);
        }

        /** The place of a letter or digit in the alphabet, from 1 on; 0 for any other sign. */
        private static int rankOf(int sign) {
            if (sign >= 'a' && sign <= 'z') {
                return sign - 'a' + 1;
            }
            if (sign >= 'A' && sign <= 'Z') {
                return sign - 'A' + 27;
            }
            return isDigit(sign) ? sign - '0' + 53 : 0;
        }

        private static boolean isDigit(int sign) {
            return sign >= '0' && sign <= '9';
        }

        private static int rowEnd(byte[] text, int from, int length) {
            int end = from;
            while (end < length && rankOf(text[end]) > 0) {
                end++;
            }
            return end;
        }

        private void keepRow(byte[] text, int from, int end) {
            if (isDigit(text[from])) {
                keepNumber(text, from, end);
            } else {
                keepWord(text, from, end);
            }
        }

        private void keepNumber(byte[] text, int from, int end) {
            boolean fits = end - from <= MAX_DIGITS;
            long number = 0;
            for (int at = from; at < end && fits; at++) {
                fits = isDigit(text[at]);
                number = number * 10 + (text[at] - '0');
            }
            keep(fits ? NUMBER : NO_TOKEN, from, number);
        }

        private void keepWord(byte[] text, int from, int end) {
            if (end - from > MAX_SIGNS) {
                keep(NO_TOKEN, from, 0);
                return;
            }
            long word = 0;
            for (int at = from; at < end; at++) {
                word = word * 64 + rankOf(text[at]);
            }
            keep(kindOfWord(word), from, word);
        }

        private int kindOfWord(long word) {
            for (int k = 0; k < KEYWORD_COUNT; k++) {
                if (keywords[k] == word) {
                    return ENUM + k;
                }
            }
            return NAME;
        }

        private void keep(int kind, int place, long value) {
            if (count < kinds.length) {
                kinds[count] = kind;
                places[count] = place;
                values[count] = value;
                count++;
            }
        }
    }

    /** The exprs of a BOOK one behind the other, operands ahead of their signs, each up to an END. */
    private static final class Code {
        static final int END = 0, PUSH = 1, ORD = 2, VALUE = 3, ABOVE = 4, SIZE = 5;
        static final int NEGATE = 6, ADD = 7, SUBTRACT = 8, MULTIPLY = 9, DIVIDE = 10;
        /** Steps with a NAME, whose arg is its first TOKEN until the text's end. */
        static final int NAMED = 11, OPENED = 12, INDEXED = 13, CASE = 14;
        /** What those are from then on: they read a constant, read a holder, use an enum, read an entry. */
        static final int CONSTANT = 15, HOLDER = 16, USE = 17, ENTRY = 18;

        final int[] ops;
        final int[] args;
        int length;

        Code(int capacity) {
            ops = new int[Math.max(capacity, 0)];
            args = new int[Math.max(capacity, 0)];
        }

        /** The step of a sign between terms, or factors; END of any other TOKEN. */
        static int ofSum(int kind) {
            return kind == '+' ? ADD : kind == '-' ? SUBTRACT : END;
        }

        static int ofProduct(int kind) {
            return kind == '*' ? MULTIPLY : kind == '/' ? DIVIDE : END;
        }

        /** Each step stands for a TOKEN of its own, so that a text's steps are no more than its bytes. */
        void emit(int op, int arg) {
            if (length < ops.length) {
                ops[length] = op;
                args[length] = arg;
                length++;
            }
        }

        Code copy() {
            Code made = new Code(length);
            System.arraycopy(ops, 0, made.ops, 0, length);
            System.arraycopy(args, 0, made.args, 0, length);
            made.length = length;
            return made;
        }
    }

    /**
     * Reads the TOKENS of a BOOK up to the first FAULT. Its methods answer whether there was none,
     * and stay within few levels of calls, as the exprs nest within them.
     */
    private static final class Reader {
        private static final int NO_TOKEN = 1, MISPLACED = 2, TOLD_ALREADY = 3, NOT_THERE = 4, TOO_MUCH = 5;
        /** Where an expr stands: each setting allows what those ahead of it do, and a word more. */
        private static final int PLAIN = 0, IN_ARGUMENT = 1, IN_BODY = 2, IN_OWN_BODY = 3;

        private final Tokens tokens;
        private final Code code = new Code(TAPE_BYTES);
        private final long[] acts = new long[MAX_ACTS];
        private Book book;
        private Enumeration current;
        private int setting;
        /** The TOKEN that is next, its kind and its value. */
        private int at;
        private int kind;
        private long value;
        /** The latest NAME that was told as a new one. */
        private long newName;
        int fault;
        int faultPlace;

        Reader(Tokens tokens) {
            this.tokens = tokens;
        }

        /** The BOOK; null if it has a FAULT. */
        Book readBook() {
            fault = 0;
            faultPlace = 0;
            code.length = 0;
            book = new Book();
            at = -1;
            boolean well = pass(true, MISPLACED);
            for (int e = 0; e <= MAX_ENUMS && well && (e == 0 || kind != Tokens.END); e++) {
                well = readHead() && readConstants() && readMembers();
            }
            if (!well) {
                return null;
            }
            book.settle(code.copy());
            int missing = book.linkNames(tokens);
            if (missing < 0) {
                return book;
            }
            fault = NOT_THERE;
            faultPlace = tokens.places[missing];
            return null;
        }

        private boolean readHead() {
            boolean isEnum = kind == Tokens.ENUM;
            if (!pass(isEnum && book.enumCount < MAX_ENUMS, isEnum ? TOO_MUCH : MISPLACED)) {
                return false;
            }
            if (!acceptNew(book.findEnum(value) >= 0, true)) {
                return false;
            }
            current = new Enumeration(newName);
            current.firstCode = code.length;
            book.keepEnum(current);
            return accept('{');
        }

        private boolean readConstants() {
            boolean more = true;
            for (int i = 0; i <= MAX_CONSTANTS && more; i++) {
                if (!readConstant()) {
                    return false;
                }
                more = kind == ',' && accept(',');
            }
            return accept(';');
        }

        private boolean readConstant() {
            if (!acceptNew(current.knows(value), current.constantCount < MAX_CONSTANTS)) {
                return false;
            }
            Constant told = new Constant(newName);
            current.constants[current.constantCount] = told;
            current.constantCount++;
            if (kind == '(') {
                accept('(');
                told.argumentCode = code.length;
                setting = IN_ARGUMENT;
                if (!readSum(0) || !accept(')')) {
                    return false;
                }
            }
            if (kind != '{') {
                return true;
            }
            accept('{');
            boolean more = true;
            for (int k = 0; k <= MAX_ACTS && more; k++) {
                if (!readAct(told.bodies, IN_OWN_BODY)) {
                    return false;
                }
                more = kind == Tokens.ACT;
            }
            return accept('}');
        }

        private boolean readAct(int[] bodies, int where) {
            if (!accept(Tokens.ACT)) {
                return false;
            }
            int act = findAct(value);
            boolean isNew = act < 0;
            if (!acceptNew(!isNew && bodies[act] != NO_CODE, !isNew || book.actCount < MAX_ACTS)) {
                return false;
            }
            if (isNew) {
                act = book.actCount;
                acts[act] = newName;
                book.actCount++;
            }
            bodies[act] = code.length;
            setting = where;
            return accept('=') && readSum(0) && accept(';');
        }

        private int findAct(long name) {
            for (int act = 0; act < book.actCount; act++) {
                if (acts[act] == name) {
                    return act;
                }
            }
            return -1;
        }

        private boolean readMembers() {
            boolean well = true;
            for (int n = 0; n < TAPE_BYTES && well && kind != '}'; n++) {
                setting = PLAIN;
                switch (kind) {
                    case Tokens.ACT: well = readAct(current.bodies, IN_BODY); break;
                    case Tokens.TABLE: well = readTable(); break;
                    case Tokens.CHECK: well = readCheck(); break;
                    case Tokens.HOLDER: well = readHolder(); break;
                    case Tokens.SWITCH: well = readSwitch(); break;
                    default: well = pass(false, MISPLACED); break;
                }
            }
            current.endCode = code.length;
            return well && accept('}');
        }

        private boolean readTable() {
            if (!acceptMember(current.tableCount < MAX_TABLES)) {
                return false;
            }
            Table told = new Table(newName);
            current.tables[current.tableCount] = told;
            current.tableCount++;
            return accept('=') && accept('[') && readEntries(told) && accept(']') && accept(';');
        }

        private boolean readEntries(Table told) {
            for (int k = 0; k < MAX_ENTRIES; k++) {
                told.entryCodes[k] = code.length;
                told.entryCount++;
                if (!readSum(0)) {
                    return false;
                }
                if (kind != ',') {
                    return true;
                }
                accept(',');
            }
            return pass(false, beginsPlainExpr() ? TOO_MUCH : MISPLACED);
        }

        private boolean beginsPlainExpr() {
            return kind == Tokens.NUMBER || kind == Tokens.NAME || kind == Tokens.SIZE
                || kind == '-' || kind == '(';
        }

        private boolean readCheck() {
            if (!pass(current.checkCount < MAX_CHECKS, TOO_MUCH)) {
                return false;
            }
            current.checkCodes[current.checkCount] = code.length;
            current.checkCount++;
            return readSum(0) && accept(';');
        }

        private boolean readHolder() {
            if (!acceptMember(current.holderCount < MAX_HOLDERS)) {
                return false;
            }
            current.holderNames[current.holderCount] = newName;
            current.holderCodes[current.holderCount] = code.length;
            current.holderCount++;
            return accept('=') && readSum(0) && accept(';');
        }

        private boolean readSwitch() {
            if (!acceptMember(current.switchCount < MAX_SWITCHES)) {
                return false;
            }
            Switch told = new Switch(newName);
            current.switches[current.switchCount] = told;
            current.switchCount++;
            boolean well = accept('{');
            for (int k = 0; k <= MAX_CASES && well && kind == Tokens.CASE; k++) {
                well = readCase(told);
            }
            if (!well || !accept(Tokens.ELSE) || !accept(':')) {
                return false;
            }
            told.elseCode = code.length;
            return readSum(0) && accept(';') && accept('}');
        }

        private boolean readCase(Switch told) {
            if (!pass(told.caseCount < MAX_CASES, TOO_MUCH)) {
                return false;
            }
            int token = at;
            if (!acceptNew(told.hasCase(value), true)) {
                return false;
            }
            told.caseNames[told.caseCount] = newName;
            told.caseCodes[told.caseCount] = code.length;
            told.caseCount++;
            code.emit(Code.CASE, token);
            return accept(':') && readSum(0) && accept(';');
        }

        /** An expr within so many signs that nest. */
        private boolean readSum(int depth) {
            int sum = Code.END;
            int product = Code.END;
            boolean more = true;
            for (int n = 0; n < TAPE_BYTES && more; n++) {
                if (!readFactor(depth)) {
                    return false;
                }
                if (product != Code.END) {
                    code.emit(product, 0);
                }
                product = Code.ofProduct(kind);
                if (product == Code.END) {
                    if (sum != Code.END) {
                        code.emit(sum, 0);
                    }
                    sum = Code.ofSum(kind);
                }
                more = (product != Code.END || sum != Code.END) && pass(true, MISPLACED);
            }
            if (depth == 0) {
                code.emit(Code.END, 0);
            }
            return true;
        }

        private boolean readFactor(int depth) {
            boolean mayNest = depth < MAX_NESTING;
            switch (kind) {
                case Tokens.NUMBER:
                    code.emit(Code.PUSH, (int) value);
                    return pass(true, MISPLACED);
                case Tokens.SIZE:
                    code.emit(Code.SIZE, 0);
                    return pass(true, MISPLACED);
                case Tokens.ORD:
                    code.emit(Code.ORD, 0);
                    return pass(setting >= IN_ARGUMENT, MISPLACED);
                case Tokens.VALUE:
                    code.emit(Code.VALUE, 0);
                    return pass(setting >= IN_BODY, MISPLACED);
                case Tokens.ABOVE:
                    code.emit(Code.ABOVE, 0);
                    return pass(setting >= IN_OWN_BODY, MISPLACED);
                case Tokens.NAME:
                    return readReference(depth);
                case '(':
                    return pass(mayNest, TOO_MUCH) && readSum(depth + 1) && pass(kind == ')', MISPLACED);
                case '-':
                    if (!pass(mayNest, TOO_MUCH) || !readFactor(depth + 1)) {
                        return false;
                    }
                    code.emit(Code.NEGATE, 0);
                    return true;
                default:
                    return pass(false, MISPLACED);
            }
        }

        private boolean readReference(int depth) {
            int token = at;
            pass(true, MISPLACED);
            if (kind == '.') {
                pass(true, MISPLACED);
                if (!pass(kind == Tokens.NAME, MISPLACED)) {
                    return false;
                }
            }
            if (kind != '[') {
                code.emit(Code.NAMED, token);
                return true;
            }
            code.emit(Code.OPENED, token);
            if (!pass(depth < MAX_NESTING, TOO_MUCH) || !readSum(depth + 1) || !pass(kind == ']', MISPLACED)) {
                return false;
            }
            code.emit(Code.INDEXED, token);
            return true;
        }

        private boolean accept(int wanted) {
            return pass(kind == wanted, MISPLACED);
        }

        private boolean acceptNew(boolean known, boolean room) {
            if (kind != Tokens.NAME) {
                return pass(false, MISPLACED);
            }
            newName = value;
            return pass(!known && room, known ? TOLD_ALREADY : TOO_MUCH);
        }

        /** The word of a table, holder or switch, and its NAME. */
        private boolean acceptMember(boolean room) {
            return pass(room, TOO_MUCH) && acceptNew(current.knows(value), true);
        }

        /** Goes past a TOKEN if it may stand there; else that is the FAULT. */
        private boolean pass(boolean may, int otherwise) {
            if (!may) {
                fault = kind == Tokens.NO_TOKEN ? NO_TOKEN : otherwise;
                faultPlace = tokens.places[at];
                return false;
            }
            at = Math.min(at + 1, tokens.count - 1);
            kind = tokens.kinds[at];
            value = tokens.values[at];
            return true;
        }
    }

    /** What one text told, and how far its ITEMS have come since. */
    private static final class Book {
        static final int ASLEEP = 0, WELL = 1, BROKEN = 2, UNDER_WAY = 3;

        private final Enumeration[] enums = new Enumeration[MAX_ENUMS];
        int enumCount;
        int actCount;
        Code code;
        /** By ITEMS. */
        private int[] states;
        int[] starts;
        int startCount;
        int[] seenBy;
        int[] seenOf;
        int seenCount;

        void keepEnum(Enumeration told) {
            if (enumCount < MAX_ENUMS) {
                enums[enumCount] = told;
                enumCount++;
            }
        }

        /** What is SEEN is seen by STARTS alone, and an ITEM STARTS once: no step sees twice. */
        void settle(Code whole) {
            code = whole;
            states = new int[END_OF_ITEMS];
            starts = new int[MAX_ENUMS + MAX_ENUMS * MAX_HOLDERS];
            seenBy = new int[whole.length];
            seenOf = new int[whole.length];
        }

        Enumeration enumAt(int e) {
            return e < 0 || e >= enumCount ? null : enums[e];
        }

        int findEnum(long name) {
            for (int e = 0; e < enumCount; e++) {
                if (enums[e].name == name) {
                    return e;
                }
            }
            return -1;
        }

        static boolean isHolder(int item) {
            return item >= FIRST_HOLDER_ITEM;
        }

        /** The number of the enum that an ITEM is, or is a holder of. */
        static int enumOfItem(int item) {
            return isHolder(item) ? (item - FIRST_HOLDER_ITEM) / MAX_HOLDERS : item;
        }

        static int holderOfItem(int item) {
            return isHolder(item) ? (item - FIRST_HOLDER_ITEM) % MAX_HOLDERS : -1;
        }

        boolean hasItem(int item) {
            Enumeration of = enumAt(enumOfItem(item));
            return of != null && holderOfItem(item) < of.holderCount;
        }

        int stateOf(int item) {
            return item < 0 || item >= END_OF_ITEMS ? ASLEEP : states[item];
        }

        void setState(int item, int state) {
            if (item >= 0 && item < END_OF_ITEMS) {
                states[item] = state;
            }
        }

        void noteStart(int item) {
            if (startCount < starts.length) {
                starts[startCount] = item;
                startCount++;
            }
        }

        void noteSeen(int by, int of) {
            if (seenCount < seenBy.length) {
                seenBy[seenCount] = by;
                seenOf[seenCount] = of;
                seenCount++;
            }
        }

        /** Turns TOKENS in the steps into what they name: the first one that names nothing, or -1. */
        int linkNames(Tokens tokens) {
            for (int e = 0; e < enumCount; e++) {
                int end = Math.min(enums[e].endCode, code.length);
                for (int step = Math.max(enums[e].firstCode, 0); step < end; step++) {
                    int missing = linkStep(step, e, tokens);
                    if (missing >= 0) {
                        return missing;
                    }
                }
            }
            return -1;
        }

        private int linkStep(int step, int e, Tokens tokens) {
            int op = code.ops[step];
            if (op == Code.SIZE) {
                return relink(step, Code.PUSH, enums[e].constantCount);
            }
            if (op < Code.NAMED || op > Code.CASE) {
                return -1;
            }
            int token = code.args[step];
            int owner = e;
            if (op != Code.CASE && tokens.kinds[token + 1] == '.') {
                owner = findEnum(tokens.values[token]);
                if (owner < 0) {
                    return token;
                }
                token += 2;
            }
            boolean linked = linkTo(step, owner, tokens.values[token]);
            return linked ? -1 : token;
        }

        private boolean linkTo(int step, int e, long name) {
            Enumeration owner = enums[e];
            int op = code.ops[step];
            if (op == Code.OPENED || op == Code.INDEXED) {
                int table = owner.findTable(name);
                boolean opened = op == Code.OPENED;
                relink(step, opened ? Code.USE : Code.ENTRY, opened ? e : e * MAX_TABLES + table);
                return table >= 0;
            }
            int constant = owner.findConstant(name);
            if (op == Code.CASE) {
                relink(step, op, constant);
                return constant >= 0;
            }
            if (constant >= 0) {
                relink(step, Code.CONSTANT, e * MAX_CONSTANTS + constant);
                return true;
            }
            int held = owner.findHolder(name);
            relink(step, Code.HOLDER, FIRST_HOLDER_ITEM + e * MAX_HOLDERS + held);
            return held >= 0;
        }

        private int relink(int step, int op, int arg) {
            code.ops[step] = op;
            code.args[step] = arg;
            return -1;
        }
    }

    /** An enum of a BOOK. Codes are steps of the BOOK's code. */
    private static final class Enumeration {
        final long name;
        int firstCode;
        int endCode;
        final Constant[] constants = new Constant[MAX_CONSTANTS];
        int constantCount;
        /** How many constants are MADE. */
        int made;
        final int[] bodies = new int[MAX_ACTS];
        final Table[] tables = new Table[MAX_TABLES];
        int tableCount;
        final int[] checkCodes = new int[MAX_CHECKS];
        int checkCount;
        final long[] holderNames = new long[MAX_HOLDERS];
        final int[] holderCodes = new int[MAX_HOLDERS];
        final int[] holderValues = new int[MAX_HOLDERS];
        int holderCount;
        final Switch[] switches = new Switch[MAX_SWITCHES];
        int switchCount;

        Enumeration(long name) {
            this.name = name;
            Arrays.fill(bodies, NO_CODE);
        }

        Constant constantAt(int i) {
            return i < 0 || i >= constantCount ? null : constants[i];
        }

        Table tableAt(int t) {
            return t < 0 || t >= tableCount ? null : tables[t];
        }

        Switch switchAt(int s) {
            return s < 0 || s >= switchCount ? null : switches[s];
        }

        int findConstant(long wanted) {
            for (int i = 0; i < constantCount; i++) {
                if (constants[i].name == wanted) {
                    return i;
                }
            }
            return -1;
        }

        int findTable(long wanted) {
            for (int t = 0; t < tableCount; t++) {
                if (tables[t].name == wanted) {
                    return t;
                }
            }
            return -1;
        }

        int findHolder(long wanted) {
            for (int h = 0; h < holderCount; h++) {
                if (holderNames[h] == wanted) {
                    return h;
                }
            }
            return -1;
        }

        private int findSwitch(long wanted) {
            for (int s = 0; s < switchCount; s++) {
                if (switches[s].name == wanted) {
                    return s;
                }
            }
            return -1;
        }

        boolean knows(long wanted) {
            return findConstant(wanted) >= 0 || findTable(wanted) >= 0
                || findHolder(wanted) >= 0 || findSwitch(wanted) >= 0;
        }
    }

    private static final class Constant {
        final long name;
        int argumentCode = NO_CODE;
        int argument;
        final int[] bodies = new int[MAX_ACTS];

        Constant(long name) {
            this.name = name;
            Arrays.fill(bodies, NO_CODE);
        }
    }

    private static final class Table {
        final long name;
        final int[] entryCodes = new int[MAX_ENTRIES];
        final int[] entries = new int[MAX_ENTRIES];
        int entryCount;
        /** How many entries are there already. */
        int there;

        Table(long name) {
            this.name = name;
        }
    }

    private static final class Switch {
        final long name;
        final long[] caseNames = new long[MAX_CASES];
        /** The CASE step of each case; its expr stands behind it. */
        final int[] caseCodes = new int[MAX_CASES];
        int caseCount;
        int elseCode;

        Switch(long name) {
            this.name = name;
        }

        boolean hasCase(long wanted) {
            for (int k = 0; k < caseCount; k++) {
                if (caseNames[k] == wanted) {
                    return true;
                }
            }
            return false;
        }
    }

    /** Starts ITEMS, works exprs out, and keeps the latest FAILURE. */
    private static final class Worker {
        private static final int START_FAILED = 1, WAS_BAD = 2, CHECK_FAILED = 3,
            NO_NUMBER = 4, NO_BODY = 5, TOO_DEEP = 6;
        /** Far above three operands a level of nesting, in the exprs of all ITEMS that can be under way. */
        private static final int STACK_SIZE = 1000;

        private Book book;
        boolean failing;
        private final int[] stack = new int[STACK_SIZE];
        private int top;
        private final int[] underWay = new int[MAX_UNDER_WAY];
        private int underWayCount;
        /** The CAUSES, the innermost first, as they come up. */
        private final int[] causeKinds = new int[MAX_UNDER_WAY + 1];
        private final int[] causeItems = new int[MAX_UNDER_WAY + 1];
        private int causeCount;
        private boolean aboveKnown;
        private int aboveValue;

        /** Begins an act of the face, that USES an ITEM of this BOOK ahead of all else: whether that went well. */
        boolean beginWith(Book about, int item) {
            book = about;
            failing = false;
            top = 0;
            underWayCount = 0;
            useItem(item);
            return !failing;
        }

        int causeKind(int i) {
            return i < 0 || i >= causeCount ? NONE : causeKinds[causeCount - 1 - i];
        }

        int causeItem(int i) {
            return i < 0 || i >= causeCount ? NONE : causeItems[causeCount - 1 - i];
        }

        private void useItem(int item) {
            int state = book.stateOf(item);
            if (state == Book.BROKEN) {
                fail(WAS_BAD, item);
            } else if (state == Book.ASLEEP) {
                startItem(item);
            }
        }

        /** What the constant's body for an ACT gives. */
        int perform(Enumeration of, int i, int act) {
            aboveKnown = false;
            Constant one = of.constantAt(i);
            if (one == null || one.bodies[act] == NO_CODE) {
                return performShared(of, i, act);
            }
            return workOut(one.bodies[act], of, i, act);
        }

        /** What the enum's own body for an ACT gives; above can't stand in it, and so gets no ACT there. */
        private int performShared(Enumeration of, int i, int act) {
            if (act < 0 || of.bodies[act] == NO_CODE) {
                fail(NO_BODY, NONE);
                return 0;
            }
            return workOut(of.bodies[act], of, i, NONE);
        }

        int choose(Enumeration of, Switch chosen, int i) {
            for (int k = 0; k < chosen.caseCount; k++) {
                int step = chosen.caseCodes[k];
                if (step >= 0 && step < book.code.length && book.code.args[step] == i) {
                    return workOut(step + 1, of, i, NONE);
                }
            }
            return workOut(chosen.elseCode, of, i, NONE);
        }

        private void fail(int kind, int item) {
            failing = true;
            causeKinds[0] = kind;
            causeItems[0] = item;
            causeCount = 1;
        }

        private void failAround(int item) {
            if (causeCount < causeKinds.length) {
                causeKinds[causeCount] = START_FAILED;
                causeItems[causeCount] = item;
                causeCount++;
            }
        }

        private void startItem(int item) {
            if (underWayCount >= MAX_UNDER_WAY) {
                fail(TOO_DEEP, NONE);
                return;
            }
            underWay[underWayCount] = item;
            underWayCount++;
            book.setState(item, Book.UNDER_WAY);
            book.noteStart(item);
            Enumeration of = book.enumAt(Book.enumOfItem(item));
            if (of != null && Book.isHolder(item)) {
                fillHolder(of, Book.holderOfItem(item));
            } else if (of != null) {
                makeEnum(of);
            }
            underWayCount--;
            book.setState(item, failing ? Book.BROKEN : Book.WELL);
            if (failing) {
                failAround(item);
            }
        }

        private void fillHolder(Enumeration of, int h) {
            if (h >= 0 && h < of.holderCount) {
                of.holderValues[h] = workOut(of.holderCodes[h], of, NONE, NONE);
            }
        }

        private void makeEnum(Enumeration of) {
            for (int i = 0; i < of.constantCount && !failing; i++) {
                makeConstant(of, i);
            }
            for (int t = 0; t < of.tableCount && !failing; t++) {
                fillTable(of, of.tables[t]);
            }
            for (int c = 0; c < of.checkCount && !failing; c++) {
                int value = workOut(of.checkCodes[c], of, NONE, NONE);
                if (!failing && value == 0) {
                    fail(CHECK_FAILED, NONE);
                }
            }
        }

        private void makeConstant(Enumeration of, int i) {
            Constant one = of.constants[i];
            if (one.argumentCode != NO_CODE) {
                one.argument = workOut(one.argumentCode, of, i, NONE);
            }
            if (!failing) {
                of.made = i + 1;
            }
        }

        private void fillTable(Enumeration of, Table table) {
            for (int k = 0; k < table.entryCount && !failing; k++) {
                table.entries[k] = workOut(table.entryCodes[k], of, NONE, NONE);
                if (!failing) {
                    table.there = k + 1;
                }
            }
        }

        /** The value of the expr at a step, about constant i of an enum where it is about one. */
        private int workOut(int from, Enumeration of, int i, int act) {
            Code code = book.code;
            for (int at = Math.max(from, 0); at < code.length && !failing; at++) {
                int op = code.ops[at];
                if (op == Code.END) {
                    break;
                }
                takeStep(op, code.args[at], of, i, act);
            }
            return failing ? 0 : pop();
        }

        private void takeStep(int op, int arg, Enumeration of, int i, int act) {
            switch (op) {
                case Code.PUSH: push(arg); break;
                case Code.ORD: push(i); break;
                case Code.VALUE: push(argumentOf(of, i)); break;
                case Code.ABOVE: push(workOutAbove(of, i, act)); break;
                case Code.CONSTANT: push(readConstant(arg / MAX_CONSTANTS, arg % MAX_CONSTANTS)); break;
                case Code.HOLDER: push(readHolder(arg)); break;
                case Code.USE: useItem(arg); break;
                case Code.ENTRY: push(readEntry(arg / MAX_TABLES, arg % MAX_TABLES, pop())); break;
                case Code.NEGATE: push(-pop()); break;
                default: combine(op); break;
            }
        }

        private void combine(int op) {
            int right = pop();
            int left = pop();
            switch (op) {
                case Code.ADD: push(left + right); break;
                case Code.SUBTRACT: push(left - right); break;
                case Code.MULTIPLY: push(left * right); break;
                default:
                    if (right == 0) {
                        fail(NO_NUMBER, NONE);
                    } else {
                        push(left / right);
                    }
                    break;
            }
        }

        private static int argumentOf(Enumeration of, int i) {
            Constant one = of.constantAt(i);
            return one == null ? 0 : one.argument;
        }

        /** Worked out once an act: all it reads is WELL behind that, so that it would give the same again. */
        private int workOutAbove(Enumeration of, int i, int act) {
            if (!aboveKnown) {
                aboveValue = performShared(of, i, act);
                aboveKnown = !failing;
            }
            return aboveValue;
        }

        private int readConstant(int e, int i) {
            useItem(e);
            Enumeration of = book.enumAt(e);
            if (failing || of == null) {
                return 0;
            }
            return i < of.made ? i : see(e, -1);
        }

        private int readHolder(int item) {
            useItem(item);
            if (failing) {
                return 0;
            }
            if (book.stateOf(item) == Book.UNDER_WAY) {
                return see(item, 0);
            }
            Enumeration of = book.enumAt(Book.enumOfItem(item));
            int h = Book.holderOfItem(item);
            return of == null || h < 0 ? 0 : of.holderValues[h];
        }

        /** The enum was USED ahead of the index. */
        private int readEntry(int e, int t, int k) {
            Enumeration of = book.enumAt(e);
            Table table = of == null ? null : of.tableAt(t);
            if (table == null || k < 0 || k >= table.entryCount) {
                fail(NO_NUMBER, NONE);
                return 0;
            }
            return k < table.there ? table.entries[k] : see(e, 0);
        }

        private int see(int item, int value) {
            if (underWayCount > 0) {
                book.noteSeen(underWay[underWayCount - 1], item);
            }
            return value;
        }

        private void push(int value) {
            if (top < STACK_SIZE) {
                stack[top] = value;
                top++;
            }
        }

        private int pop() {
            if (top <= 0) {
                return 0;
            }
            top--;
            return stack[top];
        }
    }

    /** Constants of one enum of one BOOK, a bit each: a SET, or with values a MAP. */
    private static final class Selection {
        final int book;
        final int enumNumber;
        int bits;
        int[] values = new int[0];

        Selection(int book, int enumNumber, int bits) {
            this.book = book;
            this.enumNumber = enumNumber;
            this.bits = bits;
        }

        boolean contains(int i) {
            return (bits >>> i & 1) != 0;
        }

        boolean include(int i) {
            boolean isNew = !contains(i);
            bits |= 1 << i;
            return isNew;
        }

        boolean exclude(int i) {
            boolean wasIn = contains(i);
            bits &= ~(1 << i);
            return wasIn;
        }

        int ordinalAt(int k) {
            int left = k;
            for (int i = 0; i < MAX_CONSTANTS; i++) {
                if (contains(i)) {
                    if (left == 0) {
                        return i;
                    }
                    left--;
                }
            }
            return NONE;
        }
    }

    /** The SIGNALS of a MESSAGE. */
    private static final class Message {
        int book;
        int count;
        final int[] enums = new int[MAX_SIGNALS];
        final int[] ordinals = new int[MAX_SIGNALS];
        final int[] added = new int[MAX_SIGNALS];

        /** The TOKEN that can't be there; -1 if there is none. */
        int readFrom(Tokens tokens, Book told) {
            count = 0;
            boolean mayAdd = false;
            for (int token = 0; token < tokens.count; token++) {
                int kind = tokens.kinds[token];
                if (kind == Tokens.END) {
                    return count > 0 ? -1 : token;
                }
                if (kind == Tokens.NUMBER && mayAdd) {
                    added[count - 1] = (int) tokens.values[token];
                    mayAdd = false;
                } else if (kind == Tokens.NAME && keepSignal(told, tokens.values[token])) {
                    mayAdd = true;
                } else {
                    return token;
                }
            }
            return -1;
        }

        private boolean keepSignal(Book told, long name) {
            if (count >= MAX_SIGNALS) {
                return false;
            }
            for (int e = 0; e < told.enumCount; e++) {
                Enumeration of = told.enumAt(e);
                int i = of == null ? -1 : of.findConstant(name);
                if (i >= 0) {
                    enums[count] = e;
                    ordinals[count] = i;
                    added[count] = 0;
                    count++;
                    return true;
                }
            }
            return false;
        }
    }
}
