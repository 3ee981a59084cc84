import java.lang.management.ManagementFactory;
import java.util.function.IntConsumer;

/** The room that all calls of one run share: some 7.3 million fields and elements. */
public final class RoomTest {
    /** Far below the room, as an element takes a byte at least. */
    private static final long MOST_BYTES = 3_000_000;
    private static final int CALLS = 512;
    private static int wrong;
    private static SignalBook x;

    public static void main(String[] args) {
        run("empty books", "", n -> x.book());
        run("books that are refused", "", n -> {
            if (n % 2 == 0) {
                x.feed(0x656e756d20417b61L, 8);
            } else {
                x.book();
            }
        });
        run("books with a NAME that is not there", "", n -> {
            if (n % 3 == 0) {
                x.feed(0x656e756d20417b61L, 8);
            } else if (n % 3 == 1) {
                x.feed(0x2862293b7dL, 5);
            } else {
                x.book();
            }
        });
        run("messages", "enum A{a;}", n -> {
            if (n % 2 == 0) {
                x.feed(0x61203520613b3b3bL, 4 + n % 4);
            } else {
                x.encode(0);
            }
        });
        run("decoded and encoded", "enum A{a;}", n -> {
            if (n == 0) {
                x.feed('a', 1);
                x.encode(0);
            }
            x.decode(0);
            x.encode(0);
        });
        run("sets", "enum A{a;}", n -> x.set(0, 0));
        run("joins", "enum A{a;}", n -> {
            x.set(0, 0);
            x.join(0, 0, n % 4);
        });
        run("maps", "enum A{a;}", n -> x.map(0, 0));
        run("acts", "enum A{a(1){act go=" + "above*".repeat(200) + "1;};act go=" + "value+".repeat(200) + "1;}",
            n -> x.act(0, 0, 0, 0));
        System.out.println(wrong == 0 ? "all runs keep within the room" : wrong + " runs take too much room");
        if (wrong != 0) {
            System.exit(1);
        }
    }

    private static void run(String name, String text, IntConsumer call) {
        var threads = (com.sun.management.ThreadMXBean) ManagementFactory.getThreadMXBean();
        long before = threads.getCurrentThreadAllocatedBytes();
        Desk d = new Desk(name);
        x = d.x;
        if (!text.isEmpty()) {
            d.told(text, 0);
        }
        for (int n = 0; n < CALLS; n++) {
            call.accept(n);
        }
        long bytes = threads.getCurrentThreadAllocatedBytes() - before;
        System.out.println(name + ": " + bytes + " bytes");
        if (bytes > MOST_BYTES) {
            wrong++;
        }
    }
}
