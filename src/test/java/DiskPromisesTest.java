/** What disks keep, power cuts and SNAPSHOTS: promises 3, 5, 7 to 11, 16, 17, 19 and 20. */
public final class DiskPromisesTest {
    private static final Class<IndexOutOfBoundsException> INDEX = IndexOutOfBoundsException.class;
    private static final Class<IllegalStateException> STATE = IllegalStateException.class;
    private static final Class<IllegalArgumentException> ARGUMENT = IllegalArgumentException.class;
    private static final int[] NO_NODES = {-1, 5, Integer.MAX_VALUE, Integer.MIN_VALUE};

    public static void main(String[] args) {
        crashAndStart();
        crashAndStartRefuse();
        nodeAndEntryRefuse();
        powerRefuses();
        powerAtExpire();
        powerAtAsk();
        powerAtAppend();
        powerAtReplacing();
        powerAtLeading();
        powerAtPropose();
        powerAtShrink();
        powerAtSnapshot();
        powerIsForgotten();
        shrinks();
        snapshotIsTakenOver();
        snapshotWithEntriesBehind();
        snapshotOfAnotherHistory();
        snapshotNotNeeded();
        pastInSnapshot();
        sixtySnapshots();
        Due.end();
    }

    private static void crashAndStart() {
        Play p = new Play().elect(0);
        p.run(4, 1, 9);
        p.run(1, 5, 55, 1, 0, 0, 0);
        p.x.shrink(0);
        p.run(1, 6, 66);
        long before = p.x.digest(0);
        p.x.propose(0, 7, 0, 0);
        p.x.crash(0);
        p.node(0, 0, 1, 0, 0, 3, 5, 3, 1, 0, 0, 0, 0, 0, 0);
        Due.is("ENTRIES stay", 1, p.x.entry(0, 5));
        Due.is("BASE, too", 1, p.x.entry(0, 3));
        Due.is("what is before it is gone", -1, p.x.entry(0, 2));
        Due.is("start", 5, p.x.start(0));
        p.node(0, 1, 1, 0, 0, 3, 5, 3, 1, 2, 0, 0, 1, 1, 1);
        Due.is("the SNAPSHOT's", 55, p.x.key(0, 5, 3));
        Due.is("not what was applied later", 0, p.x.key(0, 6, 0));
        p.loseAll();
        p.elect(1);
        p.settle(1);
        Due.is("all is applied again", 66, p.x.key(0, 6, 3));
        Due.is("in the same way", p.x.digest(1), p.x.digest(0));
        Due.is("as before", before, p.x.digest(0));
        Due.is("check", 0, p.x.check());
        Play q = new Play();
        q.x.expire(2);
        q.x.crash(2);
        q.x.start(2);
        q.node(2, 1, 1, 2, 0);
        q.x.deliver(0);
        Due.is("a VOTE for who was candidate", 0, q.x.deliver(4));
        Due.is("it is follower", 0, q.x.node(2, 3));
        q.x.expire(3);
        Due.is("what it promised it keeps", 1, q.x.deliver(7));
        q.message(q.lastMessage(), Run.VOTE, 2, 3, 1, 0);
    }

    private static void crashAndStartRefuse() {
        RaftRegistry x = new RaftRegistry();
        for (int n : NO_NODES) {
            Due.throwing("no NODE", INDEX, () -> x.crash(n));
            Due.throwing("no NODE", INDEX, () -> x.start(n));
            Due.throwing("no NODE", INDEX, () -> x.shrink(n));
        }
        Due.throwing("up", STATE, () -> x.start(4));
        x.crash(4);
        Due.throwing("down", STATE, () -> x.crash(4));
        Due.throwing("down", STATE, () -> x.shrink(4));
        Due.is("start", 0, x.start(4));
        Due.throwing("up", STATE, () -> x.start(4));
        Due.throwing("COMMIT is BASE", STATE, () -> x.shrink(4));
    }

    private static void nodeAndEntryRefuse() {
        Play p = new Play().elect(0);
        for (int n : NO_NODES) {
            Due.throwing("no NODE", INDEX, () -> p.x.node(n, 0));
            Due.throwing("no NODE, before what", INDEX, () -> p.x.node(n, 14));
            Due.throwing("no NODE", INDEX, () -> p.x.entry(n, 0));
        }
        for (int what : new int[] {-1, 14, Integer.MAX_VALUE, Integer.MIN_VALUE}) {
            Due.throwing("what", ARGUMENT, () -> p.x.node(0, what));
        }
        for (int index : new int[] {-1, 2, 1200, 1201, Integer.MAX_VALUE, Integer.MIN_VALUE}) {
            Due.is("entry(0, " + index + ")", -1, p.x.entry(0, index));
        }
        Due.is("entry 1", 1, p.x.entry(0, 1));
        Due.is("entry 0", 0, p.x.entry(0, 0));
        p.x.crash(0);
        Due.throwing("what, of who is down", ARGUMENT, () -> p.x.node(0, 14));
        Due.is("entry 1", 1, p.x.entry(0, 1));
    }

    private static void powerRefuses() {
        RaftRegistry x = new RaftRegistry();
        for (int n : NO_NODES) {
            Due.throwing("no NODE", INDEX, () -> x.power(n, -2));
        }
        for (int k : new int[] {-2, 101, Integer.MAX_VALUE, Integer.MIN_VALUE}) {
            Due.throwing("k", ARGUMENT, () -> x.power(0, k));
        }
        x.power(0, 100);
        for (int i = 0; i < 100; i++) {
            Due.is("RECORD " + i, 4, x.expire(0));
        }
        Due.is("RECORD 100", 0, x.expire(0));
        Play.node(x, 0, 0, 100, 0, 0);
    }

    private static void powerAtExpire() {
        RaftRegistry x = new RaftRegistry();
        x.power(3, 1);
        Due.is("RECORD 0", 4, x.expire(3));
        Due.is("RECORD 1", 0, x.expire(3));
        Play.node(x, 3, 0, 1, 3, 0);
        Due.is("messages", 4, x.messages());
        Due.throwing("down", STATE, () -> x.expire(3));
        x.start(3);
        Play.node(x, 3, 1, 1, 3, 0);
    }

    private static void powerAtAsk() {
        RaftRegistry x = new RaftRegistry();
        x.expire(0);
        x.power(1, 1);
        Due.is("TERM is written, VOTED not", 0, x.deliver(0));
        Play.node(x, 1, 0, 1, -1, 0);
        x.start(1);
        x.power(1, 1);
        Due.is("VOTED alone", 1, x.deliver(0));
        Play.node(x, 1, 1, 1, 0, 0);
        Due.is("again: no RECORD", 1, x.deliver(0));
        Play.node(x, 1, 1, 1, 0, 0);
        Due.is("the next RECORD", 0, x.expire(1));
        Play.node(x, 1, 0, 1, 0, 0);
        x.expire(4);
        x.power(2, 0);
        Due.is("TERM is not written", 0, x.deliver(8));
        Play.node(x, 2, 0, 0, -1, 0);
    }

    private static void powerAtAppend() {
        Play p = new Play().elect(0);
        for (int i = 0; i < 6; i++) {
            p.x.propose(0, 1, i, i);
        }
        p.loseAll();
        p.x.beat(0);
        int m = p.lastMessage() - 3;
        p.x.power(1, 2);
        Due.is("two ENTRIES of four", 0, p.x.deliver(m));
        p.node(1, 0, 1, 0, 0, 0, 3, 0, 1);
        Due.is("start", 3, p.x.start(1));
        p.x.power(1, 2);
        Due.is("the other two", 1, p.x.deliver(m));
        p.node(1, 1, 1, 0, 0, 0, 5, 1, 1);
        Due.is("nothing new: no RECORD", 1, p.x.deliver(m));
        p.x.power(1, 0);
        Due.is("nothing new: no RECORD", 1, p.x.deliver(m));
        Due.is("up", 1, p.x.node(1, 0));
    }

    private static void powerAtReplacing() {
        Play p = new Play().elect(0);
        p.x.propose(0, 1, 1, 1);
        p.x.propose(0, 1, 2, 2);
        p.loseAll();
        p.x.expire(1);
        p.deliverAmong(1, 2, 3);
        p.x.beat(1);
        int m = p.lastMessage() - 3;
        p.x.power(0, 1);
        Due.is("TERM is written, the ENTRY not", 0, p.x.deliver(m));
        p.node(0, 0, 2, -1, 0, 0, 3, 0, 1);
        Due.is("what it would take the place of stays", 1, p.x.entry(0, 2));
        Due.is("and what is behind it", 1, p.x.entry(0, 3));
        p.x.start(0);
        p.x.power(0, 1);
        Due.is("one RECORD for all of it", 1, p.x.deliver(m));
        p.node(0, 1, 2, -1, 0, 0, 2, 2, 2);
    }

    private static void powerAtLeading() {
        RaftRegistry x = new RaftRegistry();
        x.power(0, 1);
        x.expire(0);
        x.deliver(0);
        x.deliver(1);
        x.deliver(4);
        Due.is("its first ENTRY is not written, nothing is sent", 0, x.deliver(5));
        Play.node(x, 0, 0, 1, 0, 0, 0, 0, 0, 0);
        Due.is("messages", 6, x.messages());
        x.start(0);
        Due.is("a VOTE for a follower", 0, x.deliver(5));
        Play.node(x, 0, 1, 1, 0, 0, 0, 0, 0, 0);
    }

    private static void powerAtPropose() {
        Play p = new Play().elect(0);
        p.x.power(0, 1);
        Due.is("RECORD 0", 2, p.x.propose(0, 7, 0, 0));
        Due.throwing("a refused one writes none", ARGUMENT, () -> p.x.propose(0, 9, 0, 0));
        Due.is("a beat writes none", 4, p.x.beat(0));
        Due.is("RECORD 1", 0, p.x.propose(0, 7, 0, 0));
        p.node(0, 0, 1, 0, 0, 0, 2, 0, 1);
        Due.throwing("down", STATE, () -> p.x.propose(0, 7, 0, 0));
    }

    private static void powerAtShrink() {
        Play p = new Play().elect(0);
        p.run(1, 1, 1);
        Due.is("BASE", 2, p.x.shrink(3));
        p.run(1, 1, 2);
        p.x.power(3, 0);
        Due.is("BASE as it was", 2, p.x.shrink(3));
        p.node(3, 0, 1, 0, 0, 2, 3, 2, 1);
        p.x.start(3);
        Due.is("the old SNAPSHOT", 1, p.x.key(3, 1, 3));
    }

    /** NODE 4 heard nothing; NODE 0 has BASE 3 and sends it a SNAPSHOT. */
    private static Play behind() {
        Play p = new Play();
        p.x.expire(0);
        p.deliverAmong(0, 1, 2, 3);
        p.x.propose(0, 1, 1, 11);
        p.x.propose(0, 1, 2, 22);
        p.x.beat(0);
        p.deliverAmong(0, 1, 2, 3);
        p.loseAll();
        Due.is("BASE", 3, p.x.shrink(0));
        p.x.propose(0, 1, 3, 33);
        p.x.beat(0);
        p.message(p.lastMessage(), Run.SNAPSHOT, 0, 4, 1, 3, 1);
        return p;
    }

    private static void powerAtSnapshot() {
        Play p = behind();
        int m = p.lastMessage();
        p.x.power(4, 1);
        Due.is("TERM is written, the SNAPSHOT not", 0, p.x.deliver(m));
        p.node(4, 0, 1, -1, 0, 0, 0, 0, 0);
        p.x.start(4);
        Due.is("STORE", 0, p.x.node(4, 11));
        p.x.power(4, 1);
        Due.is("one RECORD", 1, p.x.deliver(m));
        Due.is("again: none", 1, p.x.deliver(m));
        Due.is("up", 1, p.x.node(4, 0));
        Due.is("the next one", 0, p.x.expire(4));
        p.node(4, 0, 1, -1, 0, 3, 3, 3, 1);
    }

    private static void powerIsForgotten() {
        RaftRegistry x = new RaftRegistry();
        x.power(0, 0);
        x.power(0, -1);
        Due.is("never", 4, x.expire(0));
        x.power(0, 0);
        x.power(0, 1);
        Due.is("told anew", 4, x.expire(0));
        x.crash(0);
        x.start(0);
        Due.is("forgotten as it went down", 4, x.expire(0));
        Due.is("forgotten as it went down", 4, x.expire(0));
        x.power(0, 0);
        x.expire(0);
        x.start(0);
        Due.is("forgotten as its power failed", 4, x.expire(0));
        x.crash(0);
        x.power(0, 0);
        x.start(0);
        Due.is("told while it was down", 0, x.expire(0));
        Due.is("down", 0, x.node(0, 0));
    }

    private static void shrinks() {
        Play p = new Play().elect(0);
        p.run(1, 1, 11);
        p.run(1, 2, 22);
        p.x.propose(0, 1, 3, 33);
        long digest = p.x.digest(0);
        Due.is("shrink", 3, p.x.shrink(0));
        p.node(0, 1, 1, 0, 2, 3, 4, 3, 1, 3, 0, 0, 2, 0, 2);
        Due.is("STORE", digest, p.x.digest(0));
        Due.is("BASE, too", 1, p.x.entry(0, 3));
        Due.is("gone", -1, p.x.entry(0, 2));
        Due.is("gone", -1, p.x.entry(0, 0));
        Due.is("behind BASE", 1, p.x.entry(0, 4));
        Due.throwing("COMMIT is BASE", STATE, () -> p.x.shrink(0));
        p.settle(0);
        Due.is("it goes on", 33, p.x.key(4, 3, 3));
        Due.is("a follower, too", 4, p.x.shrink(4));
        p.node(4, 1, 1, 0, 0, 4, 4, 4, 1);
        p.x.crash(4);
        p.x.start(4);
        Due.is("SNAPSHOT", p.x.digest(0), p.x.digest(4));
        p.run(1, 1, 12);
        p.x.crash(4);
        p.x.start(4);
        Due.is("a SNAPSHOT does not change with THE STORE", 11, p.x.key(4, 1, 3));
    }

    private static void snapshotIsTakenOver() {
        Play p = behind();
        int m = p.lastMessage();
        Due.is("taken over", 1, p.x.deliver(m));
        p.message(p.lastMessage(), Run.ACCEPT, 4, 0, 1, 3);
        p.node(4, 1, 1, -1, 0, 3, 3, 3, 1, 3, 0, 0, 2, 0, 2);
        Due.is("KEY", 22, p.x.key(4, 2, 3));
        Due.throwing("RESULTS are not known", java.util.NoSuchElementException.class, () -> p.x.result(4, 3));
        Due.is("the rest is sent", 1, p.x.deliver(p.lastMessage()));
        p.message(p.lastMessage(), Run.APPEND, 0, 4, 1, 3, 1, 1, 3);
        p.x.deliver(p.lastMessage());
        Due.is("LAST", 4, p.x.node(4, 5));
        p.loseAll();
        p.settle(0);
        Due.is("STORE", p.x.digest(0), p.x.digest(4));
        Due.is("RESULT since", 4, p.x.result(4, 4));
        p.x.crash(4);
        Due.is("start", 4, p.x.start(4));
        p.node(4, 1, 1, -1, 0, 3, 4, 3, 1, 3);
        Due.is("taken over before, and COMMIT is not below: ACCEPT", 1, p.x.deliver(m));
        p.message(p.lastMessage(), Run.ACCEPT, 4, 0, 1, 3);
        Due.is("check", 0, p.x.check());
    }

    private static void snapshotWithEntriesBehind() {
        Play p = new Play();
        p.x.expire(0);
        p.deliverAmong(0, 2, 3, 4);
        p.x.propose(0, 1, 1, 11);
        p.x.propose(0, 1, 2, 22);
        p.x.beat(0);
        p.deliverAmong(0, 2, 3, 4);
        p.x.propose(0, 1, 3, 33);
        p.x.beat(0);
        int entries = p.lastMessage() - 3;
        p.message(entries, Run.APPEND, 0, 1, 1, 0, 0, 4, 3);
        p.x.shrink(0);
        p.x.beat(0);
        int whole = p.lastMessage() - 3;
        p.message(whole, Run.SNAPSHOT, 0, 1, 1, 3, 1);
        p.x.deliver(entries);
        p.x.crash(1);
        p.x.start(1);
        p.node(1, 1, 1, -1, 0, 0, 4, 0, 1);
        Due.is("taken over", 1, p.x.deliver(whole));
        p.message(p.lastMessage(), Run.ACCEPT, 1, 0, 1, 3);
        p.node(1, 1, 1, -1, 0, 3, 4, 3, 1, 3, 0, 0, 2);
        Due.is("the ENTRY behind stays", 1, p.x.entry(1, 4));
        Due.is("what is before BASE goes", -1, p.x.entry(1, 2));
        p.x.crash(1);
        Due.is("the disk has it so", 4, p.x.start(1));
        p.node(1, 1, 1, -1, 0, 3, 4, 3, 1, 3, 0, 0, 2);
    }

    private static void snapshotOfAnotherHistory() {
        Play p = new Play().elect(0);
        p.x.propose(0, 1, 1, 1);
        p.x.propose(0, 1, 2, 2);
        p.x.propose(0, 1, 3, 3); // NODE 0 alone has 2 to 4, of TERM 1
        p.loseAll();
        p.x.expire(1);
        p.deliverAmong(1, 2, 3);
        p.x.propose(1, 1, 5, 55);
        p.x.beat(1);
        p.deliverAmong(1, 2, 3); // 2 and 3, of TERM 2, are committed
        p.loseAll();
        Due.is("BASE", 3, p.x.shrink(1));
        p.x.beat(1);
        int m = p.lastMessage() - 3;
        p.message(m, Run.SNAPSHOT, 1, 0, 2, 3, 2);
        Due.is("all ENTRIES go", 1, p.x.deliver(m));
        p.node(0, 1, 2, -1, 0, 3, 3, 3, 2, 2, 0, 0, 1, 0, 1);
        Due.is("ENTRY 4 is gone", -1, p.x.entry(0, 4));
        Due.is("STORE", p.x.digest(1), p.x.digest(0));
        Due.is("check", 0, p.x.check());
    }

    private static void snapshotNotNeeded() {
        Play p = behind();
        int m = p.lastMessage();
        p.x.deliver(m);
        p.x.deliver(p.lastMessage());
        p.x.deliver(p.lastMessage());
        p.settle(0);
        p.node(4, 1, 1, -1, 0, 3, 4, 4, 1);
        Due.is("COMMIT is above", 1, p.x.deliver(m));
        p.message(p.lastMessage(), Run.ACCEPT, 4, 0, 1, 4);
        p.node(4, 1, 1, -1, 0, 3, 4, 4, 1);
    }

    private static void pastInSnapshot() {
        Play p = new Play();
        p.x.expire(0);
        p.deliverAmong(0, 1, 2, 3);
        p.x.propose(0, 1, 1, 11); // REVISION 2
        p.x.propose(0, 1, 2, 22); // REVISION 3
        p.x.propose(0, 1, 1, 12); // REVISION 4
        p.x.propose(0, 4, 6, 3);
        p.x.propose(0, 8, 3, 0);
        p.x.beat(0);
        p.deliverAmong(0, 1, 2, 3);
        p.x.shrink(0);
        p.settle(0);
        p.node(4, 1, 1, -1, 0, 6, 6, 6, 1, 4, 0, 3, 2, 32, 1);
        Due.is("past at COMPACTED", 11, p.x.past(4, 1, 3));
        Due.is("past", 12, p.x.past(4, 1, 4));
        p.x.crash(4);
        p.x.start(4);
        Due.is("past at COMPACTED", 11, p.x.past(4, 1, 3));
        p.run(7, 0, 0);
        p.run(7, 0, 0);
        Due.is("LEASE", 32, p.x.node(4, 12));
        p.run(7, 0, 0);
        Due.is("its END is known", 0, p.x.node(4, 12));
    }

    private static void sixtySnapshots() {
        Play p = behind(); // 1 SNAPSHOT, for NODE 4
        for (int i = 2; i <= 60; i++) {
            Due.is("a SNAPSHOT and three APPENDS", 4, p.x.beat(0));
        }
        int messages = p.x.messages();
        int sixtieth = p.lastMessage();
        p.message(sixtieth, Run.SNAPSHOT, 0, 4, 1, 3, 1);
        Due.is("it is lost", 3, p.x.beat(0));
        Due.is("messages", messages + 3, p.x.messages());
        p.message(p.lastMessage(), Run.APPEND, 0, 3, 1, 3, 1, 1, 3);
        Due.is("the 60th can be delivered", 1, p.x.deliver(sixtieth));
        Due.is("BASE", 3, p.x.node(4, 4));
    }
}
