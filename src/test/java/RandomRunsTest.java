import java.util.Arrays;
import java.util.Random;
import java.util.Set;
import java.util.TreeSet;

/** All promises: random runs of calls, each answer held against the model's. */
public final class RandomRunsTest {
    private static final int RUNS = 6000;
    private static final Set<String> FILLED = Set.of("book", "set", "join", "map", "encode");
    private static int wrong;
    private static int told;
    private static int calls;
    private static final int[] faults = new int[6];
    private static final int[] causes = new int[7];
    private static int seen;
    /** The acts that were met with FULL. */
    private static final Set<String> full = new TreeSet<>();

    private final Random random;
    private final SignalBook x = new SignalBook();
    private final Model model = new Model();
    private final StringBuilder log = new StringBuilder();
    private boolean failed;

    private RandomRunsTest(long seed) {
        random = new Random(seed);
        log.append("seed ").append(seed).append('\n');
    }

    private int check(String call, int got, int want) {
        calls++;
        log.append(call).append(" = ").append(got).append('\n');
        if (want == SignalBook.FULL && FILLED.contains(call.split(" ")[0])) {
            full.add(call.split(" ")[0]);
        }
        if (got != want && !failed) {
            failed = true;
            wrong++;
            System.out.println(log + "due is " + want);
        }
        return want;
    }

    private void feed(String text) {
        log.append("text: ").append(text).append('\n');
        int step = 1 + random.nextInt(8);
        for (int from = 0; from < text.length(); from += step) {
            int n = Math.min(step, text.length() - from);
            long w = random.nextLong();
            for (int k = 0; k < n; k++) {
                w = w << 8 | text.charAt(from + k) & 255;
            }
            if (x.feed(w, n) != model.feed(w, n)) {
                check("feed", 0, 1);
            }
        }
    }

    private int small() {
        return random.nextInt(40) == 0 ? random.nextInt() : random.nextInt(random.nextInt(6) == 0 ? 14 : 4)
            - (random.nextInt(8) == 0 ? 2 : 0);
    }

    private int item() {
        return random.nextInt(3) == 0 ? small() : 98 + random.nextInt(random.nextInt(5) == 0 ? 56 : 20);
    }

    private void book(Author author) {
        feed(author.writeBook());
        int number = check("book", x.book(), model.book());
        int fault = check("wrong", x.wrong(), model.wrong());
        faults[fault]++;
        told += number >= 0 ? 1 : 0;
    }

    private void lookAtBook(int b) {
        int enums = model.told(b, 0);
        for (int what = -1; what < 5; what++) {
            check("told " + b + " " + what, x.told(b, what), model.told(b, what));
        }
        for (int e = -1; e <= enums; e++) {
            check("state " + e, x.state(b, e), model.state(b, e));
            for (int h = -1; h <= 4; h++) {
                int item = 100 + 4 * e + h;
                check("state " + item, x.state(b, item), model.state(b, item));
            }
        }
        int starts = model.told(b, 2);
        for (int i = -1; i <= starts; i++) {
            check("start " + i, x.start(b, i), model.start(b, i));
        }
        int count = model.told(b, 3);
        seen += Math.max(count, 0);
        for (int i = -1; i <= count; i++) {
            for (int what = -1; what < 3; what++) {
                check("seen " + i + " " + what, x.seen(b, i, what), model.seen(b, i, what));
            }
        }
        lookAtCauses();
    }

    private void lookAtCauses() {
        for (int i = -1; i < 15; i++) {
            for (int what = -1; what < 3; what++) {
                int kind = check("cause " + i + " " + what, x.cause(i, what), model.cause(i, what));
                if (what == 0 && kind > 0) {
                    causes[kind]++;
                }
            }
        }
    }

    private void call(Author author) {
        int b = random.nextInt(5) == 0 ? small() : 0;
        int e = small();
        int i = small();
        int k = small();
        String args = " " + b + " " + e + " " + i + " " + k;
        switch (random.nextInt(34)) {
            case 0 -> check("about" + args, x.about(b, e, i), model.about(b, e, i));
            case 1 -> check("letter" + args, x.letter(b, e, i, k), model.letter(b, e, i, k));
            case 2 -> check("body" + args, x.body(b, e, i, k), model.body(b, e, i, k));
            case 3 -> check("use" + args, x.use(b, e), model.use(b, e));
            case 4 -> check("argument" + args, x.argument(b, e, i), model.argument(b, e, i));
            case 5, 6, 7 -> check("act" + args, x.act(b, e, i, k), model.act(b, e, i, k));
            case 8 -> check("entry" + args, x.entry(b, e, i, k), model.entry(b, e, i, k));
            case 9 -> check("holder" + args, x.holder(b, e, i), model.holder(b, e, i));
            case 10, 11 -> check("branch" + args, x.branch(b, e, i, k), model.branch(b, e, i, k));
            case 12 -> lookAtCauses();
            case 13 -> lookAtBook(b);
            case 14, 15 -> check("set" + args, x.set(b, e), model.set(b, e));
            case 16, 17, 18 -> check("add" + args, x.add(e, i), model.add(e, i));
            case 19 -> check("take" + args, x.take(e, i), model.take(e, i));
            case 20, 21 -> check("join" + args, x.join(e, i, k), model.join(e, i, k));
            case 22, 23 -> check("member" + args, x.member(e, i), model.member(e, i));
            case 24 -> check("map" + args, x.map(b, e), model.map(b, e));
            case 25, 26 -> check("put" + args, x.put(e, i, k), model.put(e, i, k));
            case 27 -> check("get" + args, x.get(e, i), model.get(e, i));
            case 28, 29 -> {
                if (random.nextInt(3) > 0) {
                    feed(author.writeMessage());
                }
                check("encode" + args, x.encode(b), model.encode(b));
            }
            case 30 -> check("signal" + args, x.signal(e, i, k), model.signal(e, i, k));
            case 31 -> check("decode" + args, x.decode(e), model.decode(e));
            case 32 -> check("cut" + args, x.cut(k), model.cut(k));
            default -> check("state" + args, x.state(b, e), model.state(b, e));
        }
        check("out", x.out(), model.out());
    }

    private void run() {
        Author author = new Author(random);
        int texts = 1 + random.nextInt(random.nextInt(10) == 0 ? 28 : 2);
        for (int n = 0; n < texts; n++) {
            check("cut", x.cut(0), model.cut(0));
            book(author);
            for (int k = random.nextInt(random.nextInt(10) == 0 ? 400 : 60); k > 0 && !failed; k--) {
                call(author);
            }
            int item = item();
            check("state " + item, x.state(0, item), model.state(0, item));
        }
        for (int b = 0; b < texts && !failed; b++) {
            lookAtBook(b);
        }
    }

    /** Whether the runs met each kind of FAULT, CAUSE and FULL, without which they would prove little. */
    private static boolean metAll() {
        boolean all = full.equals(FILLED);
        for (int kind = 1; kind <= 6; kind++) {
            all = all && causes[kind] > 0 && (kind > 5 || faults[kind] > 0);
        }
        if (!all) {
            System.out.println("the runs did not meet all there is");
        }
        return all;
    }

    public static void main(String[] args) {
        long first = args.length > 0 ? Long.parseLong(args[0]) : 1;
        int runs = args.length > 1 ? Integer.parseInt(args[1]) : RUNS;
        for (long seed = first; seed < first + runs && wrong < 3; seed++) {
            new RandomRunsTest(seed).run();
        }
        System.out.println(runs + " runs, " + calls + " calls, " + told + " books, FAULTS "
            + Arrays.toString(faults) + ", CAUSES " + Arrays.toString(causes) + ", SEEN " + seen + ", FULL " + full
            + ", answers that are not as due: " + wrong);
        if (wrong != 0 || runs == RUNS && !metAll()) {
            System.exit(1);
        }
    }
}
