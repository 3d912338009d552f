import java.util.NoSuchElementException;

/** THE STORE and the calls that look at it, at all five nodes: promises 4, 5, 11 to 14 and 18. */
public final class StorePromisesTest {
    private static final Class<IndexOutOfBoundsException> INDEX = IndexOutOfBoundsException.class;
    private static final Class<IllegalStateException> STATE = IllegalStateException.class;
    private static final Class<IllegalArgumentException> ARGUMENT = IllegalArgumentException.class;
    private static final Class<NoSuchElementException> ELEMENT = NoSuchElementException.class;

    public static void main(String[] args) {
        puts();
        removals();
        comparisons();
        comparisonsOfWhatIsThere();
        leases();
        leasesOfTicks();
        wrappingEnds();
        compaction();
        more();
        proposeRefuses();
        results();
        keyRefuses();
        pastRefuses();
        eventRefuses();
        digests();
        Due.end();
    }

    private static Play led() {
        return new Play().elect(0);
    }

    private static void key(Play p, int k, int version, int came, int changed, int value, int lease) {
        int[] due = {version, came, changed, value, lease};
        for (int n = 0; n < 5; n++) {
            for (int what = 0; what < 5; what++) {
                Due.is("key(" + n + ", " + k + ", " + what + ")", due[what], p.x.key(n, k, what));
            }
        }
    }

    private static void puts() {
        Play p = led();
        Due.is("put", 2, p.run(1, 0, 10));
        key(p, 0, 1, 2, 2, 10, 0);
        Due.is("put again", 3, p.run(1, 0, -7));
        key(p, 0, 2, 2, 3, -7, 0);
        Due.is("put of the last KEY", 4, p.run(1, 63, 5));
        key(p, 63, 1, 4, 4, 5, 0);
        key(p, 62, 0, 0, 0, 0, 0);
        Due.is("put with a LEASE that is not there", -1, p.run(1, 5, 1, 8, 0, 0, 0));
        key(p, 5, 0, 0, 0, 0, 0);
        Due.is("REVISION", 4, p.x.node(0, 8));
        Due.is("KEYS", 2, p.x.node(3, 11));
        Due.is("EVENTS", 3, p.x.node(4, 13));
    }

    private static void removals() {
        Play p = led();
        for (int k : new int[] {9, 3, 5}) {
            p.command(1, k, k * 10, 0, 0, 0, 0);
        }
        p.settle(0);
        Due.is("remove none", 0, p.run(2, 6, 8));
        Due.is("remove from above to below", 0, p.run(2, 9, 3));
        Due.is("REVISION is as it was", 4, p.x.node(0, 8));
        Due.is("remove two", 2, p.run(2, 4, 9));
        Due.is("one REVISION for both", 5, p.x.node(0, 8));
        Due.is("the lesser first", -1 - (64 * 5 + 5), p.x.event(0, 5, 0));
        Due.is("then the greater", -1 - (64 * 5 + 9), p.x.event(0, 5, 1));
        key(p, 5, 0, 0, 0, 0, 0);
        key(p, 3, 1, 3, 3, 30, 0);
        Due.is("it comes anew", 6, p.run(1, 5, 1));
        key(p, 5, 1, 6, 6, 1, 0);
        Due.is("remove all", 2, p.run(2, 0, 63));
        Due.is("KEYS", 0, p.x.node(1, 11));
    }

    private static void comparisons() {
        Play p = led();
        // Of what is not there all is 0.
        for (int b = 0; b < 4; b++) {
            Due.is("0 equal to 0, by " + b, 1, p.run(3, 40, b, 0, 0, 10 + b, 1));
            Due.is("0 below 0, by " + b, 0, p.run(3, 40, b, 1, 0, 50, 1));
            Due.is("0 above 0, by " + b, 0, p.run(3, 40, b, 2, 0, 50, 1));
        }
        key(p, 13, 1, 5, 5, 1, 0);
        Due.is("REVISION", 5, p.x.node(0, 8));
    }

    private static void comparisonsOfWhatIsThere() {
        Play p = led();
        p.run(1, 13, 8);
        p.run(1, 13, -3); // VERSION 2, CAME 2, CHANGED 3, VALUE -3
        Due.is("equal", 1, p.run(3, 13, 3, 0, -3, 20, 1));
        Due.is("below", 1, p.run(3, 13, 1, 1, 3, 20, 2));
        Due.is("above", 1, p.run(3, 13, 2, 2, 2, 20, 3));
        Due.is("not equal, and no KEY 50", 0, p.run(3, 13, 0, 0, 1, 50, 9));
        key(p, 20, 3, 4, 6, 3, 0);
        Due.is("what is not so removes", 0, p.run(3, 13, 3, 0, 0, 20, 9));
        key(p, 20, 0, 0, 0, 0, 0);
        Due.is("REVISION of the removal", 7, p.x.node(0, 8));
        Due.is("on itself", 1, p.run(3, 13, 0, 0, 2, 13, 99));
        key(p, 13, 3, 2, 8, 99, 0);
        Due.is("VALUES are compared with sign", 1, p.run(3, 13, 3, 2, Integer.MIN_VALUE, 13, 4));
        p.run(4, 1, 100);
        p.run(1, 13, 5, 1, 0, 0, 0);
        p.run(3, 13, 3, 0, 5, 13, 6);
        Due.is("a put by 3 has no LEASE", 0, p.x.key(0, 13, 4));
    }

    private static void leases() {
        Play p = led();
        Due.is("LEASE 1 comes", 1, p.run(4, 1, 100));
        Due.is("it is there", 0, p.run(4, 1, 5));
        Due.is("LEASE 8 comes", 1, p.run(4, 8, 100));
        Due.is("bits", 0x81, p.x.node(2, 12));
        Due.is("put with LEASE 8", 2, p.run(1, 7, 1, 8, 0, 0, 0));
        Due.is("put with LEASE 8", 3, p.run(1, 4, 1, 8, 0, 0, 0));
        key(p, 4, 1, 3, 3, 1, 8);
        Due.is("a put takes the LEASE away", 4, p.run(1, 7, 2));
        Due.is("put with LEASE 8", 5, p.run(1, 6, 1, 8, 0, 0, 0));
        Due.is("LEASE 3 does not go", -1, p.run(5, 3, 0));
        Due.is("LEASE 1 goes", 0, p.run(5, 1, 0));
        Due.is("without KEYS no REVISION", 5, p.x.node(0, 8));
        Due.is("LEASE 8 goes with two KEYS", 2, p.run(5, 8, 0));
        Due.is("one REVISION for both", 6, p.x.node(0, 8));
        Due.is("KEY 4 first", -1 - (64 * 6 + 4), p.x.event(0, 6, 0));
        Due.is("KEY 6 then", -1 - (64 * 6 + 6), p.x.event(0, 6, 1));
        key(p, 7, 2, 2, 4, 2, 0);
        Due.is("bits", 0, p.x.node(2, 12));
        p.run(4, 8, 5);
        p.run(1, 0, 1, 8, 0, 0, 0);
        p.run(1, 63, 1, 8, 0, 0, 0);
        Due.is("the first and the last KEY go", 2, p.run(5, 8, 0));
        key(p, 0, 0, 0, 0, 0, 0);
        key(p, 63, 0, 0, 0, 0, 0);
        Due.is("renew what is not there", 0, p.run(6, 8, 1));
        Due.is("put with a LEASE that went", -1, p.run(1, 1, 1, 8, 0, 0, 0));
    }

    private static void leasesOfTicks() {
        Play p = led();
        p.run(4, 2, 1);
        p.run(4, 1, 2);
        p.run(4, 5, 2);
        p.run(4, 3, 2);
        p.run(4, 4, 0);
        p.run(1, 30, 1, 1, 0, 0, 0);
        p.run(1, 20, 1, 5, 0, 0, 0);
        p.run(1, 21, 1, 5, 0, 0, 0);
        Due.is("an END that is TIME stays until a tick", 0x1F, p.x.node(0, 12));
        Due.is("renew", 1, p.run(6, 2, 2));
        Due.is("tick", 1, p.run(7, 0, 0));
        Due.is("the END was put off", 0x17, p.x.node(0, 12));
        Due.is("TIME", 1, p.x.node(4, 9));
        Due.is("tick", 2, p.run(7, 0, 0));
        Due.is("an END that is TIME goes", 0, p.x.node(0, 12));
        Due.is("one REVISION for each LEASE that had KEYS", 6, p.x.node(0, 8));
        Due.is("LEASE 1 first", -1 - (64 * 5 + 30), p.x.event(0, 5, 0));
        Due.is("LEASE 5 then", -1 - (64 * 6 + 20), p.x.event(0, 5, 1));
        Due.is("LEASE 5 then", -1 - (64 * 6 + 21), p.x.event(0, 5, 2));
        Due.is("KEYS", 0, p.x.node(0, 11));
    }

    private static void wrappingEnds() {
        Play p = led();
        p.run(7, 0, 0);
        Due.is("END wraps", 1, p.run(4, 1, Integer.MAX_VALUE));
        Due.is("END is the greatest int", 1, p.run(4, 2, Integer.MAX_VALUE - 1));
        Due.is("END is below TIME", 1, p.run(4, 3, -9));
        p.run(7, 0, 0);
        Due.is("what wrapped goes", 2, p.x.node(0, 12));
        p.run(6, 2, Integer.MAX_VALUE);
        p.run(7, 0, 0);
        Due.is("renewing wraps too", 0, p.x.node(0, 12));
    }

    private static void compaction() {
        Play p = led();
        p.run(1, 1, 11);
        p.run(1, 2, 22);
        p.run(2, 1, 1);
        p.run(1, 2, 23);
        Due.is("not above COMPACTED", 0, p.run(8, 0, 0));
        Due.is("not above COMPACTED", 0, p.run(8, -5, 0));
        Due.is("above REVISION", 0, p.run(8, 6, 0));
        Due.is("EVENTS", 4, p.x.node(0, 13));
        Due.is("compacted", 1, p.run(8, 3, 0));
        Due.is("COMPACTED", 3, p.x.node(1, 10));
        Due.is("EVENTS", 2, p.x.node(1, 13));
        Due.is("past at COMPACTED", 11, p.x.past(0, 1, 3));
        Due.is("past at COMPACTED", 22, p.x.past(0, 2, 3));
        Due.throwing("past below", ARGUMENT, () -> p.x.past(0, 1, 2));
        Due.throwing("past of what was removed", ELEMENT, () -> p.x.past(0, 1, 4));
        Due.is("past", 22, p.x.past(0, 2, 4));
        Due.is("past now", 23, p.x.past(0, 2, 5));
        Due.is("the first EVENT that is left", -1 - (64 * 4 + 1), p.x.event(0, 4, 0));
        Due.is("again", 0, p.run(8, 3, 0));
        Due.is("up to REVISION", 1, p.run(8, 5, 0));
        Due.is("EVENTS", 0, p.x.node(0, 13));
        Due.is("past", 23, p.x.past(0, 2, 5));
        Due.throwing("past of what was removed", ELEMENT, () -> p.x.past(0, 1, 5));
        key(p, 2, 2, 3, 5, 23, 0);
    }

    private static void more() {
        Play p = led();
        p.x.propose(0, 3, 1, 0); // c to f are 0 at first: VERSION of KEY 1 is 0, so KEY 0 is put with 0
        p.settle(0);
        Due.is("by the zeros", 1, p.x.result(0, 2));
        Due.is("by the zeros", 1, p.x.key(0, 0, 0));
        p.x.more(2, -1, 7, 70);
        p.x.propose(0, 3, 1, 0);
        p.x.propose(0, 3, 1, 0);
        p.settle(0);
        Due.is("they stay", 2, p.x.key(0, 7, 0));
        Due.is("f", 70, p.x.key(0, 7, 3));
        p.x.more(Integer.MIN_VALUE, Integer.MAX_VALUE, -1, 64);
        Due.is("any numbers, where they are not used", 5, p.x.propose(0, 7, 0, 0));
    }

    private static void proposeRefuses() {
        Play p = led();
        RaftRegistry x = p.x;
        for (int n : new int[] {-1, 5, Integer.MIN_VALUE, Integer.MAX_VALUE}) {
            Due.throwing("no NODE", INDEX, () -> x.propose(n, 0, 0, 0));
        }
        for (int kind : new int[] {0, -1, 9, Integer.MAX_VALUE, Integer.MIN_VALUE}) {
            Due.throwing("no such kind", ARGUMENT, () -> x.propose(0, kind, 1, 1));
            Due.throwing("no such kind, and no leader", ARGUMENT, () -> x.propose(1, kind, 1, 1));
        }
        for (int key : new int[] {-1, 64, Integer.MIN_VALUE, Integer.MAX_VALUE}) {
            x.more(0, 0, 0, 0);
            Due.throwing("a is no KEY", ARGUMENT, () -> x.propose(0, 1, key, 0));
            Due.throwing("a is no KEY", ARGUMENT, () -> x.propose(0, 2, key, 0));
            Due.throwing("a is no KEY", ARGUMENT, () -> x.propose(0, 3, key, 0));
            Due.throwing("b is no KEY", ARGUMENT, () -> x.propose(0, 2, 0, key));
            x.more(0, 0, key, 0);
            Due.throwing("e is no KEY", ARGUMENT, () -> x.propose(0, 3, 0, 0));
        }
        for (int kind = 4; kind <= 6; kind++) {
            for (int lease : new int[] {0, 9, -1, Integer.MIN_VALUE, Integer.MAX_VALUE}) {
                int k = kind;
                Due.throwing("a is no LEASE", ARGUMENT, () -> x.propose(0, k, lease, 0));
            }
        }
        x.more(-1, 0, 0, 0);
        Due.throwing("c for 1", ARGUMENT, () -> x.propose(0, 1, 0, 0));
        Due.throwing("c for 3", ARGUMENT, () -> x.propose(0, 3, 0, 0));
        x.more(9, 0, 0, 0);
        Due.throwing("c for 1", ARGUMENT, () -> x.propose(0, 1, 0, 0));
        x.more(3, 0, 0, 0);
        Due.throwing("c for 3", ARGUMENT, () -> x.propose(0, 3, 0, 0));
        x.more(2, 0, 63, 0);
        Due.throwing("b for 3", ARGUMENT, () -> x.propose(0, 3, 0, -1));
        Due.throwing("b for 3", ARGUMENT, () -> x.propose(0, 3, 0, 4));
        Due.is("nothing came by those", 1, x.node(0, 5));
        x.more(8, 0, 63, 0);
        Due.is("edges that are allowed", 2, x.propose(0, 1, 63, 0));
        x.more(2, 0, 63, 0);
        Due.is("edges that are allowed", 3, x.propose(0, 3, 63, 3));
        Due.is("edges that are allowed", 4, x.propose(0, 2, 0, 63));
        Due.is("edges that are allowed", 5, x.propose(0, 6, 8, 0));
        Due.is("edges that are allowed", 6, x.propose(0, 8, Integer.MIN_VALUE, 0));
        Due.throwing("a follower", STATE, () -> x.propose(1, 7, 0, 0));
        x.crash(0);
        Due.throwing("down", STATE, () -> x.propose(0, 7, 0, 0));
        Due.throwing("down, and no such kind", ARGUMENT, () -> x.propose(0, 9, 0, 0));
        x.expire(1);
        Due.throwing("a candidate", STATE, () -> x.propose(1, 7, 0, 0));
    }

    private static void results() {
        Play p = led();
        p.run(1, 0, 5);
        p.run(7, 0, 0);
        for (int n = 0; n < 5; n++) {
            Due.is("KIND 0", 0, p.x.result(n, 1));
            Due.is("put", 2, p.x.result(n, 2));
            Due.is("tick", 1, p.x.result(n, 3));
        }
        for (int index : new int[] {0, 4, -1, 1200, 1201, Integer.MAX_VALUE, Integer.MIN_VALUE}) {
            Due.throwing("result(0, " + index + ")", ELEMENT, () -> p.x.result(0, index));
            Due.throwing("no NODE", INDEX, () -> p.x.result(5, index));
        }
        Due.throwing("no NODE", INDEX, () -> p.x.result(-1, 1));
        p.command(7, 0, 0, 0, 0, 0, 0);
        Due.throwing("not applied yet", ELEMENT, () -> p.x.result(0, 4));
        p.x.shrink(1);
        Due.is("shrink keeps RESULTS", 2, p.x.result(1, 2));
        p.x.crash(1);
        Due.throwing("down", ELEMENT, () -> p.x.result(1, 2));
        p.x.start(1);
        Due.throwing("in the SNAPSHOT", ELEMENT, () -> p.x.result(1, 3));
        p.settle(0);
        Due.is("applied since", 2, p.x.result(1, 4));
        Due.throwing("not since", ELEMENT, () -> p.x.result(1, 3));
        p.x.crash(2);
        p.x.start(2);
        Due.throwing("not applied since it is up", ELEMENT, () -> p.x.result(2, 1));
        p.settle(0);
        Due.is("applied anew", 2, p.x.result(2, 2));
    }

    private static void keyRefuses() {
        Play p = led();
        for (int bad : new int[] {-1, 5, Integer.MAX_VALUE, Integer.MIN_VALUE}) {
            Due.throwing("no NODE", INDEX, () -> p.x.key(bad, 0, 0));
            Due.throwing("no NODE first", INDEX, () -> p.x.key(bad, 0, 9));
            Due.throwing("what", ARGUMENT, () -> p.x.key(0, 0, bad));
        }
        for (int bad : new int[] {-1, 64, Integer.MAX_VALUE, Integer.MIN_VALUE}) {
            Due.throwing("no KEY", INDEX, () -> p.x.key(0, bad, 0));
            Due.throwing("no KEY before what", INDEX, () -> p.x.key(0, bad, 5));
        }
        p.x.crash(0);
        Due.throwing("down", STATE, () -> p.x.key(0, 0, 0));
        Due.throwing("down before what", STATE, () -> p.x.key(0, 0, 5));
        Due.throwing("no KEY before down", INDEX, () -> p.x.key(0, 64, 5));
    }

    private static void pastRefuses() {
        Play p = led();
        Due.throwing("not there at 0", ELEMENT, () -> p.x.past(0, 0, 0));
        Due.throwing("not there at 1", ELEMENT, () -> p.x.past(0, 0, 1));
        p.run(1, 0, 5);
        p.run(1, 0, -6);
        p.run(1, 1, 7);
        Due.throwing("not there yet", ELEMENT, () -> p.x.past(0, 0, 1));
        Due.is("past", 5, p.x.past(0, 0, 2));
        Due.is("past", -6, p.x.past(0, 0, 3));
        Due.is("past", -6, p.x.past(0, 0, 4));
        Due.throwing("above REVISION", ARGUMENT, () -> p.x.past(0, 0, 5));
        Due.throwing("below COMPACTED", ARGUMENT, () -> p.x.past(0, 0, -1));
        Due.throwing("far", ARGUMENT, () -> p.x.past(0, 0, Integer.MAX_VALUE));
        Due.throwing("far", ARGUMENT, () -> p.x.past(0, 0, Integer.MIN_VALUE));
        Due.throwing("no NODE", INDEX, () -> p.x.past(5, 0, 99));
        Due.throwing("no NODE", INDEX, () -> p.x.past(-1, 0, 99));
        Due.throwing("no KEY", INDEX, () -> p.x.past(0, 64, 99));
        Due.throwing("no KEY", INDEX, () -> p.x.past(0, -1, 99));
        p.x.crash(0);
        Due.throwing("down", STATE, () -> p.x.past(0, 0, 99));
        Due.throwing("no KEY before down", INDEX, () -> p.x.past(0, 64, 2));
    }

    private static void eventRefuses() {
        Play p = led();
        Due.throwing("none", INDEX, () -> p.x.event(0, 1, 0));
        p.run(1, 63, -1);
        p.run(1, 0, Integer.MIN_VALUE);
        Due.is("put of -1", (2L << 38) + (63L << 32) + 0xFFFFFFFFL, p.x.event(0, 1, 0));
        Due.is("put of the least", (3L << 38) + 0x80000000L, p.x.event(0, 2, 1));
        Due.is("from its own REVISION", (3L << 38) + 0x80000000L, p.x.event(0, 3, 0));
        Due.throwing("behind the last", INDEX, () -> p.x.event(0, 3, 1));
        Due.throwing("before the first", INDEX, () -> p.x.event(0, 3, -1));
        Due.throwing("before the first that is told", INDEX, () -> p.x.event(0, 3, Integer.MIN_VALUE));
        Due.throwing("far", INDEX, () -> p.x.event(0, 1, Integer.MAX_VALUE));
        Due.throwing("no such REVISION", INDEX, () -> p.x.event(0, Integer.MAX_VALUE, 0));
        Due.throwing("not above COMPACTED", ARGUMENT, () -> p.x.event(0, 0, 0));
        Due.throwing("not above COMPACTED, and no such", ARGUMENT, () -> p.x.event(0, 0, -1));
        Due.throwing("not above COMPACTED", ARGUMENT, () -> p.x.event(0, Integer.MIN_VALUE, 0));
        Due.throwing("no NODE", INDEX, () -> p.x.event(5, 0, 0));
        Due.throwing("no NODE", INDEX, () -> p.x.event(-1, 0, 0));
        p.x.crash(0);
        Due.throwing("down", STATE, () -> p.x.event(0, 0, -1));
    }

    private static void digests() {
        Play p = led();
        Due.is("of nothing", 7 * 31 + 1, p.x.digest(0));
        p.run(4, 3, 50);
        p.run(1, 5, -2, 3, 0, 0, 0);
        p.run(1, 4, 9);
        p.run(2, 4, 4);
        long h = 7;
        long[] parts = {5, -2, 1, 2, 2, 3, (2L << 38) + (5L << 32) + 0xFFFFFFFEL, (3L << 38) + (4L << 32) + 9,
            -1 - (64 * 4 + 4), 4};
        for (long part : parts) {
            h = h * 31 + part;
        }
        for (int n = 0; n < 5; n++) {
            Due.is("digest", h, p.x.digest(n));
        }
        Due.throwing("no NODE", INDEX, () -> p.x.digest(5));
        Due.throwing("no NODE", INDEX, () -> p.x.digest(-1));
        p.x.crash(2);
        Due.throwing("down", STATE, () -> p.x.digest(2));
    }
}
