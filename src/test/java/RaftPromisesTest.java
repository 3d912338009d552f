/** The nodes, their disks and their messages: promises 1 to 3, 6 to 10, 15 to 17, 19 and 20. */
public final class RaftPromisesTest {
    private static final Class<IndexOutOfBoundsException> INDEX = IndexOutOfBoundsException.class;
    private static final Class<IllegalStateException> STATE = IllegalStateException.class;
    private static final Class<IllegalArgumentException> ARGUMENT = IllegalArgumentException.class;
    private static final int[] NO_NODES = {-1, 5, Integer.MAX_VALUE, Integer.MIN_VALUE};

    public static void main(String[] args) {
        readmeExample();
        newObject();
        expires();
        expireRefuses();
        votes();
        votesByLogs();
        outdated();
        leading();
        appending();
        denials();
        replacing();
        committing();
        oldTermStays();
        matchBeginsAnew();
        passingOverBase();
        Due.end();
    }

    private static void readmeExample() {
        RaftRegistry r = new RaftRegistry();
        r.expire(0);
        r.deliver(0);
        r.deliver(1);
        r.deliver(4);
        r.deliver(5);
        r.more(0, 0, 0, 0);
        int index = r.propose(0, 1, 5, 77);
        r.beat(0);
        r.deliver(10);
        r.deliver(11);
        r.deliver(14);
        r.deliver(15);
        Due.is("result", 2, r.result(0, index));
        Due.is("key", 77, r.key(0, 5, 3));
    }

    private static void newObject() {
        RaftRegistry x = new RaftRegistry();
        for (int n = 0; n < 5; n++) {
            Play.node(x, n, 1, 0, -1, 0, 0, 0, 0, 0, 1, 0, 0, 0, 0, 0);
            Due.is("entry 0", 0, x.entry(n, 0));
            Due.is("entry 1", -1, x.entry(n, 1));
            for (int k = 0; k < 64; k++) {
                Due.is("no KEY", 0, x.key(n, k, 0));
            }
        }
        Due.is("messages", 0, x.messages());
        Due.is("check", 0, x.check());
        Due.throwing("no MESSAGE", INDEX, () -> x.deliver(0));
        Due.throwing("no leader", STATE, () -> x.beat(0));
        Due.throwing("nothing to shrink", STATE, () -> x.shrink(0));
    }

    private static void expires() {
        RaftRegistry x = new RaftRegistry();
        Due.is("expire", 4, x.expire(2));
        Play.node(x, 2, 1, 1, 2, 1, 0, 0, 0, 0);
        Play.message(x, 0, Run.ASK, 2, 0, 1);
        Play.message(x, 1, Run.ASK, 2, 1, 1);
        Play.message(x, 2, Run.ASK, 2, 3, 1);
        Play.message(x, 3, Run.ASK, 2, 4, 1);
        Due.is("a candidate again", 4, x.expire(2));
        Play.node(x, 2, 1, 2, 2, 1);
        Play.message(x, 7, Run.ASK, 2, 4, 2);
        Due.is("messages", 8, x.messages());
        Play p = new Play().elect(0);
        p.command(7, 0, 0, 0, 0, 0, 0);
        p.settle(0);
        p.x.expire(3);
        p.message(p.lastMessage(), Run.ASK, 3, 4, 2, 2, 1);
        p.x.shrink(1);
        p.x.expire(1);
        p.message(p.lastMessage(), Run.ASK, 1, 4, 2, 2, 1);
    }

    private static void expireRefuses() {
        Play p = new Play().elect(0);
        for (int n : NO_NODES) {
            Due.throwing("no NODE", INDEX, () -> p.x.expire(n));
            Due.throwing("no NODE", INDEX, () -> p.x.beat(n));
        }
        Due.throwing("leader", STATE, () -> p.x.expire(0));
        p.x.crash(1);
        Due.throwing("down", STATE, () -> p.x.expire(1));
        Due.throwing("down", STATE, () -> p.x.beat(1));
        Due.throwing("follower", STATE, () -> p.x.beat(2));
        p.x.expire(2);
        Due.throwing("candidate", STATE, () -> p.x.beat(2));
        p.x.crash(0);
        Due.throwing("it was leader", STATE, () -> p.x.beat(0));
        p.x.start(0);
        Due.throwing("it was leader", STATE, () -> p.x.beat(0));
        Due.is("it is no leader", 4, p.x.expire(0));
    }

    private static void votes() {
        RaftRegistry x = new RaftRegistry();
        x.expire(0); // 0 to 3
        x.expire(1); // 4 to 7: to 0, 2, 3, 4
        Due.is("ask", 1, x.deliver(1));
        Play.node(x, 2, 1, 1, 0, 0);
        Play.message(x, 8, Run.VOTE, 2, 0, 1, 1);
        Due.is("it voted for another one", 1, x.deliver(5));
        Play.message(x, 9, Run.VOTE, 2, 1, 1, 0);
        Due.is("asked again", 1, x.deliver(1));
        Play.message(x, 10, Run.VOTE, 2, 0, 1, 1);
        Due.is("a candidate voted for itself", 1, x.deliver(0));
        Play.message(x, 11, Run.VOTE, 1, 0, 1, 0);
        Due.is("a VOTE", 0, x.deliver(8));
        Due.is("the same VOTE", 0, x.deliver(8));
        Due.is("its like", 0, x.deliver(10));
        Due.is("a VOTE no", 0, x.deliver(11));
        Due.is("still candidate", 1, x.node(0, 3));
        x.deliver(3);
        Due.is("the third VOTE", 4, x.deliver(12));
        Due.is("leader", 2, x.node(0, 3));
        Due.is("a VOTE for a leader", 0, x.deliver(12));
        Due.is("VOTE no to the candidate", 0, x.deliver(9));
        Due.is("an ASK at a leader", 1, x.deliver(4));
        Play.message(x, x.messages() - 1, Run.VOTE, 0, 1, 1, 0);
        Due.is("check", 0, x.check());
    }

    private static void votesByLogs() {
        Play p = new Play().elect(0); // all have ENTRY 1 of TERM 1
        p.x.propose(0, 7, 0, 0);
        p.x.beat(0);
        p.deliverAmong(0, 1, 2); // 0, 1, 2 have LAST 2
        p.x.expire(3);
        int ask = p.lastMessage() - 3;
        Due.is("LAST below: TERM 2 comes, a VOTE no", 1, p.x.deliver(ask));
        p.message(p.lastMessage(), Run.VOTE, 0, 3, 2, 0);
        p.node(0, 1, 2, -1, 0, 0, 2);
        p.x.deliver(ask + 3);
        p.message(p.lastMessage(), Run.VOTE, 4, 3, 2, 1);
        p.loseAll();
        p.x.expire(1); // TERM 2 as well
        int second = p.lastMessage() - 3;
        Due.is("the same LAST", 1, p.x.deliver(second + 1));
        p.message(p.lastMessage(), Run.VOTE, 2, 1, 2, 1);
        p.x.deliver(second);
        p.deliverAmong(1); // leader of TERM 2 with ENTRY 3 of it, that only NODE 1 has
        Due.is("leader", 2, p.x.node(1, 3));
        Due.is("LAST", 3, p.x.node(1, 5));
        p.loseAll();
        p.x.expire(0); // TERM 3 with LAST 2 of TERM 1
        p.x.deliver(p.lastMessage() - 3);
        p.message(p.lastMessage(), Run.VOTE, 1, 0, 3, 0);
        p.x.expire(1); // TERM 4 with LAST 3 of TERM 2
        p.x.deliver(p.lastMessage() - 3);
        p.message(p.lastMessage(), Run.VOTE, 0, 1, 4, 1);
        // A longer LOG of an older TERM is behind a shorter one of a newer TERM.
        Play q = new Play().elect(0);
        q.x.propose(0, 7, 0, 0);
        q.x.propose(0, 7, 0, 0);
        q.x.propose(0, 7, 0, 0);
        q.x.expire(1);
        q.deliverAmong(1, 2, 3);
        q.x.crash(0);
        q.x.start(0);
        q.x.expire(0);
        q.x.expire(0);
        q.x.deliver(q.lastMessage() - 3);
        q.message(q.lastMessage(), Run.VOTE, 1, 0, 3, 0);
        Due.is("VOTED none, by the TERM", -1, q.x.node(1, 2));
        Due.is("follower, by the TERM", 0, q.x.node(1, 3));
    }

    private static void outdated() {
        Play p = new Play();
        p.x.expire(0); // 0 to 3, TERM 1
        p.deliverAmong(0, 1, 2); // 4, 5 VOTES, 6 to 9 APPENDS, then ACCEPTS
        int accept = p.lastMessage();
        p.message(accept, Run.ACCEPT, 2, 0, 1, 1);
        p.x.shrink(0);
        p.x.beat(0);
        int snapshot = p.lastMessage();
        p.message(snapshot, Run.SNAPSHOT, 0, 4, 1, 1, 1);
        p.x.expire(4);
        p.x.expire(4);
        Due.is("an old ASK", 1, p.x.deliver(3));
        p.message(p.lastMessage(), Run.VOTE, 4, 0, 2, 0);
        Due.is("an old APPEND", 1, p.x.deliver(9));
        p.message(p.lastMessage(), Run.DENIAL, 4, 0, 2, 0);
        Due.is("an old SNAPSHOT", 1, p.x.deliver(snapshot));
        p.message(p.lastMessage(), Run.DENIAL, 4, 0, 2, 0);
        Due.is("still candidate", 1, p.x.node(4, 3));
        Due.is("a DENIAL of a newer TERM", 0, p.x.deliver(p.lastMessage()));
        p.node(0, 1, 2, -1, 0, 1, 1, 1, 1);
        Due.is("an old VOTE", 0, p.x.deliver(4));
        Due.is("an old ACCEPT", 0, p.x.deliver(accept));
        p.x.crash(3);
        Due.is("to who is down", 0, p.x.deliver(2));
        for (int m : new int[] {-1, p.x.messages(), Integer.MAX_VALUE, Integer.MIN_VALUE}) {
            Due.throwing("no MESSAGE", INDEX, () -> p.x.deliver(m));
            Due.throwing("no MESSAGE", INDEX, () -> p.x.message(m, 0));
            Due.throwing("no MESSAGE, before what", INDEX, () -> p.x.message(m, 8));
        }
        for (int what : new int[] {-1, 8, Integer.MAX_VALUE, Integer.MIN_VALUE}) {
            Due.throwing("what", ARGUMENT, () -> p.x.message(0, what));
        }
    }

    private static void leading() {
        RaftRegistry x = new RaftRegistry();
        x.expire(3);
        x.deliver(0);
        x.deliver(1);
        x.deliver(4);
        Due.is("leader", 4, x.deliver(5));
        Play.node(x, 3, 1, 1, 3, 2, 0, 1, 0, 1);
        Due.is("its ENTRY", 1, x.entry(3, 1));
        int[] others = {0, 1, 2, 4};
        for (int i = 0; i < 4; i++) {
            Play.message(x, 6 + i, Run.APPEND, 3, others[i], 1, 0, 0, 1, 0);
        }
        Due.is("nobody told of another INDEX: all again", 4, x.beat(3));
        Play.message(x, 13, Run.APPEND, 3, 4, 1, 0, 0, 1, 0);
    }

    private static void appending() {
        Play p = new Play().elect(0);
        for (int i = 0; i < 6; i++) {
            p.x.propose(0, 1, i, i);
        }
        p.loseAll();
        p.x.beat(0);
        int m = p.lastMessage() - 3;
        p.message(m, Run.APPEND, 0, 1, 1, 1, 1, 4, 1);
        Due.is("append", 1, p.x.deliver(m));
        p.message(p.lastMessage(), Run.ACCEPT, 1, 0, 1, 5);
        p.node(1, 1, 1, 0, 0, 0, 5, 1, 1);
        Due.is("the rest is sent", 1, p.x.deliver(p.lastMessage()));
        p.message(p.lastMessage(), Run.APPEND, 0, 1, 1, 5, 1, 2, 1);
        Due.is("LAST is not yet", 5, p.x.node(1, 5));
        p.x.deliver(p.lastMessage());
        p.message(p.lastMessage(), Run.ACCEPT, 1, 0, 1, 7);
        Due.is("again the first: nothing goes", 1, p.x.deliver(m));
        p.message(p.lastMessage(), Run.ACCEPT, 1, 0, 1, 5);
        Due.is("LAST", 7, p.x.node(1, 5));
        Due.is("an ACCEPT of less", 1, p.x.deliver(p.lastMessage()));
        p.message(p.lastMessage(), Run.APPEND, 0, 1, 1, 5, 1, 2, 1);
        p.x.deliver(p.lastMessage() - 2);
        Due.is("an ACCEPT of all", 0, p.x.deliver(p.lastMessage() - 2));
        Due.is("MATCH stays", 0, p.x.deliver(p.lastMessage() - 1));
        p.x.propose(0, 7, 0, 0);
        p.x.beat(0);
        p.message(p.lastMessage() - 3, Run.APPEND, 0, 1, 1, 7, 1, 1, 1);
        Due.is("a candidate that gets an APPEND of its TERM", 1, candidateHears());
    }

    /** NODE 4 is candidate of TERM 1 as the leader of TERM 1 appends: 1 if it is follower then. */
    private static int candidateHears() {
        Play q = new Play();
        q.x.expire(4);
        q.loseAll();
        q.x.expire(0);
        q.deliverAmong(0, 1, 2);
        Due.is("candidate", 1, q.x.node(4, 3));
        int m = 0;
        while (q.x.message(m, 0) != Run.APPEND || q.x.message(m, 2) != 4) {
            m++;
        }
        q.x.deliver(m);
        q.node(4, 1, 1, 4, 0, 0, 1, 0, 1);
        return q.x.node(4, 3) == 0 ? 1 : 0;
    }

    private static void denials() {
        Play p = new Play();
        p.x.expire(0);
        p.deliverAmong(0, 1, 2);
        for (int i = 0; i < 5; i++) {
            p.x.propose(0, 1, i, i);
        }
        p.x.beat(0);
        p.deliverAmong(0, 1, 2);
        p.x.expire(1);
        p.deliverAmong(0, 1, 2); // NODE 1 leads TERM 2 with LAST 7; 3 and 4 have nothing
        Due.is("LAST", 7, p.x.node(1, 5));
        p.x.beat(1);
        int m = p.lastMessage();
        p.message(m, Run.APPEND, 1, 4, 2, 6, 1, 1, 7);
        Due.is("PREVIOUS above LAST", 1, p.x.deliver(m));
        int denial = p.lastMessage();
        p.message(denial, Run.DENIAL, 4, 1, 2, 0);
        Due.is("NEXT goes back", 1, p.x.deliver(denial));
        p.message(p.lastMessage(), Run.APPEND, 1, 4, 2, 0, 0, 4, 7);
        Due.is("append", 1, p.x.deliver(p.lastMessage()));
        p.message(p.lastMessage(), Run.ACCEPT, 4, 1, 2, 4);
        Due.is("COMMIT not above the last ENTRY of it", 4, p.x.node(4, 6));
        Due.is("accept", 1, p.x.deliver(p.lastMessage()));
        p.message(p.lastMessage(), Run.APPEND, 1, 4, 2, 4, 1, 3, 7);
        Due.is("the old DENIAL again", 1, p.x.deliver(denial));
        p.message(p.lastMessage(), Run.APPEND, 1, 4, 2, 4, 1, 3, 7);
        p.x.deliver(p.lastMessage());
        Due.is("COMMIT", 7, p.x.node(4, 6));
        p.x.deliver(p.lastMessage());
        Due.is("the old DENIAL once more: it sends, without ENTRIES", 1, p.x.deliver(denial));
        p.message(p.lastMessage(), Run.APPEND, 1, 4, 2, 7, 2, 0, 7);
        Due.is("without ENTRIES", 1, p.x.deliver(p.lastMessage()));
        p.message(p.lastMessage(), Run.ACCEPT, 4, 1, 2, 7);
        Due.is("the same STORE", p.x.digest(1), p.x.digest(4));
    }

    /** NODE 0 has ENTRIES 2 and 3 of TERM 1 alone; 1 to 3 have another ENTRY 2, of TERM 2. */
    private static Play parted() {
        Play p = new Play().elect(0);
        p.x.propose(0, 1, 1, 1);
        p.x.propose(0, 1, 2, 2);
        p.loseAll();
        p.x.expire(1);
        p.deliverAmong(1, 2, 3);
        p.node(1, 1, 2, 1, 2, 0, 2, 2, 2);
        p.node(0, 1, 1, 0, 2, 0, 3, 1, 1);
        return p;
    }

    private static void replacing() {
        Play p = parted();
        p.x.expire(2); // TERM 3, LAST 2 of TERM 2
        p.deliverAmong(1, 2, 3);
        Due.is("leader", 2, p.x.node(2, 3));
        int m = 0;
        for (int i = 0; i < p.x.messages(); i++) {
            if (p.x.message(i, 0) == Run.APPEND && p.x.message(i, 1) == 2 && p.x.message(i, 2) == 0) {
                m = i;
            }
        }
        p.message(m, Run.APPEND, 2, 0, 3, 2, 2, 1, 0);
        Due.is("another TERM at PREVIOUS", 1, p.x.deliver(m));
        p.message(p.lastMessage(), Run.DENIAL, 0, 2, 3, 1);
        p.node(0, 1, 3, -1, 0, 0, 3, 1, 1);
        Due.is("it goes back", 1, p.x.deliver(p.lastMessage()));
        p.message(p.lastMessage(), Run.APPEND, 2, 0, 3, 1, 1, 2, 3);
        Due.is("it takes their place", 1, p.x.deliver(p.lastMessage()));
        p.node(0, 1, 3, -1, 0, 0, 3, 3, 3);
        Due.is("ENTRY 2", 2, p.x.entry(0, 2));
        Due.is("ENTRY 3", 3, p.x.entry(0, 3));
        Due.is("no KEY came", 0, p.x.node(0, 11));
        Due.is("check", 0, p.x.check());
        Play q = parted();
        q.x.beat(1);
        Due.is("one ENTRY in the place of two", 1, q.x.deliver(q.lastMessage() - 3));
        q.node(0, 1, 2, -1, 0, 0, 2, 2, 2);
        Due.is("ENTRY 3 is gone", -1, q.x.entry(0, 3));
    }

    private static void committing() {
        Play p = new Play().elect(0);
        p.x.propose(0, 1, 9, 9);
        p.x.propose(0, 1, 9, 8);
        p.loseAll();
        p.x.beat(0);
        int m = p.lastMessage() - 3;
        p.x.deliver(m);
        p.x.deliver(p.lastMessage());
        Due.is("one other is not enough", 1, p.x.node(0, 6));
        p.x.deliver(p.lastMessage());
        Due.is("the same one twice is not enough", 1, p.x.node(0, 6));
        p.x.deliver(m + 3);
        p.x.deliver(p.lastMessage());
        Due.is("two others are", 3, p.x.node(0, 6));
        Due.is("and it is applied", 8, p.x.key(0, 9, 3));
        Due.is("a follower does not know yet", 1, p.x.node(1, 6));
        p.x.beat(0);
        p.x.deliver(p.lastMessage() - 3);
        Due.is("now it does", 3, p.x.node(1, 6));
        Due.is("and applied it", 8, p.x.key(1, 9, 3));
        p.x.deliver(m);
        Due.is("COMMIT does not go back", 3, p.x.node(1, 6));
    }

    /** A leader whose followers match an ENTRY of an older TERM, but not yet its own, commits nothing. */
    private static void oldTermStays() {
        Play q = new Play().elect(0);
        for (int i = 0; i < 6; i++) {
            q.x.propose(0, 1, i, i);
        }
        q.x.beat(0);
        q.deliverAmong(1); // ENTRIES 2 to 5, of TERM 1
        q.x.expire(1);
        int ask = q.lastMessage() - 3;
        for (int n = 1; n <= 2; n++) {
            q.x.deliver(ask + n);
            q.x.deliver(q.lastMessage());
        }
        int append = q.lastMessage() - 3;
        for (int n = 1; n <= 2; n++) {
            q.x.deliver(append + n); // a DENIAL with 1
            q.x.deliver(q.lastMessage()); // ENTRIES 2 to 5
            q.message(q.lastMessage(), Run.APPEND, 1, n + 1, 2, 1, 1, 4, 1);
            q.x.deliver(q.lastMessage());
            q.message(q.lastMessage(), Run.ACCEPT, n + 1, 1, 2, 5);
            q.x.deliver(q.lastMessage());
            Due.is("two have ENTRY 5 of TERM 1", 1, q.x.node(1, 6));
        }
        q.x.deliver(q.lastMessage());
        q.x.deliver(q.lastMessage());
        Due.is("one has ENTRY 6 of TERM 2", 1, q.x.node(1, 6));
        q.loseAll();
        q.x.beat(1);
        q.x.deliver(q.lastMessage() - 2);
        q.x.deliver(q.lastMessage());
        Due.is("two have it: all before it is committed too", 6, q.x.node(1, 6));
        Due.is("and applied", 4, q.x.node(1, 11));
    }

    /** NODE 1 had ENTRIES 2 to 4 of NODE 0's TERM 1, that NODE 0 itself lost since: they count nothing in TERM 3. */
    private static void matchBeginsAnew() {
        Play p = new Play().elect(0);
        for (int i = 0; i < 3; i++) {
            p.x.propose(0, 1, i, i);
        }
        p.x.beat(0);
        p.deliverAmong(0, 1);
        p.x.expire(2);
        p.deliverAmong(0, 2, 3, 4); // TERM 2, ENTRY 2 of it
        p.node(0, 1, 2, -1, 0, 0, 2, 1, 2);
        p.x.expire(0);
        p.deliverAmong(3, 4);
        int votes = p.lastMessage() - 1;
        p.x.deliver(votes);
        p.x.deliver(votes + 1);
        p.node(0, 1, 3, 0, 2, 0, 3, 1, 3);
        p.message(p.lastMessage() - 3, Run.APPEND, 0, 1, 3, 2, 2, 1, 1);
        int toThree = p.lastMessage() - 1;
        p.x.deliver(toThree);
        p.x.deliver(p.lastMessage());
        Due.is("NODE 3 alone has ENTRY 3", 1, p.x.node(0, 6));
        p.x.deliver(toThree - 2); // NODE 1 has another ENTRY 2
        p.message(p.lastMessage(), Run.DENIAL, 1, 0, 3, 1);
        p.x.deliver(p.lastMessage());
        p.message(p.lastMessage(), Run.APPEND, 0, 1, 3, 1, 1, 2, 1);
        p.x.deliver(p.lastMessage());
        p.x.deliver(p.lastMessage());
        Due.is("now NODE 1 has it, too", 3, p.x.node(0, 6));
    }

    private static void passingOverBase() {
        Play p = new Play().elect(0);
        for (int i = 0; i < 6; i++) {
            p.x.propose(0, 1, i, i);
        }
        p.loseAll();
        p.x.beat(0);
        int old = p.lastMessage() - 3; // to NODE 1, PREVIOUS 1, ENTRIES 2 to 5
        p.deliverAll();
        p.settle(0);
        Due.is("BASE", 7, p.x.shrink(1));
        Due.is("all of it is passed over", 1, p.x.deliver(old));
        p.message(p.lastMessage(), Run.ACCEPT, 1, 0, 1, 7);
        Play q = new Play().elect(0);
        q.x.propose(0, 1, 1, 1);
        q.settle(0); // COMMIT 2
        q.x.shrink(1);
        for (int i = 0; i < 3; i++) {
            q.x.propose(0, 1, i, i);
        }
        q.x.crash(1);
        q.x.start(1);
        q.node(1, 1, 1, 0, 0, 2, 2, 2, 1);
        q.x.expire(2);
        q.deliverAmong(2, 3, 4); // NODE 2 leads TERM 2, ENTRY 3
        q.loseAll();
        q.x.beat(2);
        q.x.deliver(q.lastMessage() - 2);
        q.message(q.lastMessage(), Run.ACCEPT, 1, 2, 2, 3);
        q.node(1, 1, 2, -1, 0, 2, 3, 3, 2);
        partlyPassedOver();
    }

    /** An APPEND whose ENTRIES begin below BASE and end above it. */
    private static void partlyPassedOver() {
        Play p = new Play().elect(0); // MATCH of all 1
        p.x.propose(0, 1, 1, 1);
        p.x.beat(0);
        p.deliverAmong(0, 2, 3);
        p.loseAll();
        Due.is("COMMIT", 2, p.x.node(0, 6));
        p.x.propose(0, 1, 2, 2);
        p.x.propose(0, 1, 3, 3);
        p.x.beat(0);
        int wide = p.lastMessage() - 3; // to NODE 1: PREVIOUS 1, ENTRIES 2 to 4, COMMIT 2
        p.message(wide, Run.APPEND, 0, 1, 1, 1, 1, 3, 2);
        p.x.shrink(0);
        p.x.beat(0);
        int whole = p.lastMessage() - 3;
        p.message(whole, Run.SNAPSHOT, 0, 1, 1, 2, 1);
        Due.is("the SNAPSHOT", 1, p.x.deliver(whole));
        p.node(1, 1, 1, 0, 0, 2, 2, 2, 1);
        p.x.power(1, 2);
        Due.is("ENTRY 2 is passed over, 3 and 4 come", 1, p.x.deliver(wide));
        p.message(p.lastMessage(), Run.ACCEPT, 1, 0, 1, 4);
        p.node(1, 1, 1, 0, 0, 2, 4, 2, 1);
    }
}
