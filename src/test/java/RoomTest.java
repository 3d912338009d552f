import com.sun.management.ThreadMXBean;
import java.lang.management.ManagementFactory;

/**
 * What 512 calls make, all of it counted, fits the room of a run: 600,000 objects and 7,300,000 fields and elements.
 * An object takes 16 bytes or more and, there being no rows of bytes, an element takes 4 or more.
 */
public final class RoomTest {
    private static final long MOST_BYTES = 9_000_000;

    public static void main(String[] args) {
        ThreadMXBean threads = (ThreadMXBean) ManagementFactory.getThreadMXBean();
        if (!threads.isThreadAllocatedMemorySupported() || !threads.isThreadAllocatedMemoryEnabled()) {
            System.out.println("this machine does not count what is made");
            return;
        }
        long start = threads.getCurrentThreadAllocatedBytes();
        shrinking();
        long first = threads.getCurrentThreadAllocatedBytes();
        sending();
        long second = threads.getCurrentThreadAllocatedBytes();
        lookAt("a run that shrinks", first - start);
        lookAt("a run that sends", second - first);
        Due.end();
    }

    private static void lookAt(String what, long bytes) {
        System.out.println(what + " makes " + bytes + " bytes");
        Due.is(what + " stays in the room", 1, bytes < MOST_BYTES ? 1 : 0);
    }

    private static int deliverFrom(RaftRegistry x, int seen) {
        int next = seen;
        while (next < x.messages()) {
            x.deliver(next++);
        }
        return next;
    }

    /** All five nodes take a SNAPSHOT of every ENTRY: more of the dearest call than 512 calls can hold. */
    private static void shrinking() {
        RaftRegistry x = new RaftRegistry();
        x.expire(0);
        int seen = deliverFrom(x, 0);
        for (int i = 0; i < 100; i++) {
            x.propose(0, 1, i % 64, i);
            x.beat(0);
            seen = deliverFrom(x, seen);
            x.beat(0);
            seen = deliverFrom(x, seen);
            for (int n = 0; n < 5; n++) {
                x.shrink(n);
            }
        }
        Due.is("BASE", 101, x.node(4, 4));
    }

    private static void sending() {
        RaftRegistry x = new RaftRegistry();
        x.expire(0);
        int seen = deliverFrom(x, 0);
        x.propose(0, 7, 0, 0);
        x.propose(0, 7, 0, 0);
        x.propose(0, 7, 0, 0);
        x.propose(0, 7, 0, 0);
        for (int i = 0; i < 480; i++) {
            x.beat(0);
        }
        Due.is("messages", seen + 4 * 480, x.messages());
    }
}
