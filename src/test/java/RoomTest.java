import java.lang.management.ManagementFactory;
import java.lang.management.ThreadMXBean;

/**
 * LANGUAGE.md, rule 12: what a run makes is counted. All calls of a run live in one room of 7.3 million fields and
 * elements, so an object and any 512 calls of it must need far less than these would, at four bytes each.
 */
final class RoomTest {
    private static final long ROOM = 4L * 7_300_000;
    /** What is left of 512 calls behind 40 words, 12 lines that are kept and recalled, and a message. */
    private static final int CALLS = 512 - 40 - 24 - 1;

    private interface Call {
        void on(WireBook book);
    }

    public static void main(String[] args) {
        room("say", book -> book.say(1));
        room("keep", WireBook::keep);
        room("recall", book -> book.recall(0));
        room("reason", book -> book.reason(0, 0));
        room("firstFit", book -> book.firstFit(1, 0));
        room("define", book -> book.define(0, 0));
        room("drop", book -> book.drop(0, 0));
        room("find", book -> book.find(0, 0));
        room("encode", book -> book.encode(0));
        room("garble", book -> book.garble(0, 0, 0));
        room("swap", book -> book.swap(0, 0));
        room("decode", book -> book.decode(0));
        room("cost", WireBook::cost);
        room("time", WireBook::time);
        room("share", book -> book.share(0));
        room("propose", book -> book.propose(1));
        room("learn", book -> book.learn(1, 40));
        room("digest", WireBook::digest);
        Check.end();
    }

    private static void room(String name, Call call) {
        long before = made();
        WireBook book = new WireBook();
        for (int word = 0; word < 40; word++) {
            book.say(word);
        }
        for (int kept = 0; kept < 12; kept++) {
            book.keep();
            book.recall(0);
        }
        book.encode(0);
        for (int count = 0; count < CALLS; count++) {
            try {
                call.on(book);
            } catch (IllegalArgumentException | IllegalStateException | IndexOutOfBoundsException refused) {
                continue;
            }
        }
        long bytes = made() - before;
        Check.holds(name + " made " + bytes + " bytes in " + CALLS + " calls", bytes < ROOM);
    }

    /** The bytes that this thread has made so far; 0 on a machine that does not count them. */
    private static long made() {
        ThreadMXBean threads = ManagementFactory.getThreadMXBean();
        if (threads instanceof com.sun.management.ThreadMXBean counting
                && counting.isThreadAllocatedMemorySupported()) {
            return counting.getThreadAllocatedBytes(Thread.currentThread().getId());
        }
        return 0;
    }
}
