import java.util.NoSuchElementException;

/** 'Terms' 2 and promises 7 to 11, sentence by sentence: RECORDS, power, what is kept and what is lost. */
public final class DiskBoundariesTest {
    private static final Class<IllegalStateException> STATE = IllegalStateException.class;
    private static final Class<IllegalArgumentException> ARGUMENT = IllegalArgumentException.class;
    private static final Class<NoSuchElementException> ELEMENT = NoSuchElementException.class;
    private static final int FOLLOWER = 0;
    private static final int CANDIDATE = 1;
    private static final int LEADER = 2;

    public static void main(String[] args) {
        records();
        cuts();
        powers();
        losses();
        shrinking();
        Due.end();
    }

    private static void records() {
        Due.sentence("TERM or VOTED that change (one for both at once)", DiskBoundariesTest::recordsOfTermAndVoted);
        Due.sentence("VOTED is FROM (a RECORD, if it was not)", DiskBoundariesTest::recordsOfVotes);
        Due.sentence("an ENTRY that comes to the end of THE LOG", DiskBoundariesTest::recordsOfEntries);
        Due.sentence("a SNAPSHOT (with all ENTRIES that go by it)", DiskBoundariesTest::recordsOfSnapshots);
        Due.sentence("A RECORD is written for each: for nothing else", DiskBoundariesTest::noRecords);
    }

    private static void cuts() {
        Due.sentence("that is not written: TERM and VOTED", DiskBoundariesTest::cutAtExpire);
        Due.sentence("that is not written: TERM by a MESSAGE", DiskBoundariesTest::cutAtTerm);
        Due.sentence("that is not written: VOTED", DiskBoundariesTest::cutAtVoted);
        Due.sentence("that is not written: one ENTRY of several", DiskBoundariesTest::cutAtEntries);
        Due.sentence("that is not written: what it would take the place of stays", DiskBoundariesTest::cutAtReplacing);
        Due.sentence("that is not written: the leader's first ENTRY", DiskBoundariesTest::cutAtLeading);
        Due.sentence("its INDEX; 0 if its power failed", DiskBoundariesTest::cutAtPropose);
        Due.sentence("BASE (as it was, if its power failed)", DiskBoundariesTest::cutAtShrink);
        Due.sentence("that is not written: the SNAPSHOT of another", DiskBoundariesTest::cutAtSnapshot);
        Due.sentence("what it sent before is sent", DiskBoundariesTest::sentBefore);
    }

    private static void powers() {
        Due.sentence("at its RECORD k from now on (0 the next one", DiskBoundariesTest::recordK);
        Due.sentence("k is not -1 to 100: 100", DiskBoundariesTest::hundredRecords);
        Due.sentence("-1 never", DiskBoundariesTest::never);
        Due.sentence("IllegalArgumentException if k is not -1 to 100", DiskBoundariesTest::powerRefuses);
        Due.sentence("what was told of it before is forgotten", DiskBoundariesTest::toldAnew);
        Due.sentence("and this when it goes down", DiskBoundariesTest::forgottenWhenDown);
        Due.sentence("NODE n's power", DiskBoundariesTest::ofOneNode);
    }

    private static void losses() {
        Due.sentence("that is kept on its disk", DiskBoundariesTest::kept);
        Due.sentence("What it loses when it goes down: ROLE", DiskBoundariesTest::roleIsLost);
        Due.sentence("What it loses when it goes down: COMMIT (BASE at first), THE STORE (the SNAPSHOT's)",
                DiskBoundariesTest::storeIsLost);
        Due.sentence("NODE n is up, as its disk has it: LAST", DiskBoundariesTest::startAnswersLast);
        Due.sentence("RESULTS of ENTRIES are known from those that it applied since it has its STORE",
                DiskBoundariesTest::resultsSinceStart);
        Due.sentence("NoSuchElementException if it is down", DiskBoundariesTest::resultOfTheDown);
    }

    private static void shrinking() {
        Due.sentence("BASE its COMMIT (a RECORD; ENTRIES up to there go): BASE", DiskBoundariesTest::shrinkToCommit);
        Due.sentence("IllegalStateException if it is down, or COMMIT is BASE", DiskBoundariesTest::shrinkRefuses);
        Due.sentence("NODE n's SNAPSHOT is its STORE", DiskBoundariesTest::snapshotIsTheStoreOfThen);
        Due.sentence("The TERM of NODE n's ENTRY at an INDEX (BASE, too); -1 without", DiskBoundariesTest::entries);
    }

    private static void recordsOfTermAndVoted() {
        Run r = new Run();
        Due.is("expire", 1, r.records(0, x -> x.expire(0)));
        r.expire(0);
        Due.is("expire again", 1, r.records(0, x -> x.expire(0)));
        r.expire(1);
        r.expire(1);
        r.deliver(0); // NODE 1 has TERM 2: a VOTE no of it
        int vote = r.last();
        Due.is("a VOTE of a newer TERM", 1, r.records(0, x -> x.deliver(vote)));
        Run q = Run.led();
        q.expire(4);
        q.expire(4);
        q.deliver(9);
        int denial = q.last();
        Due.is("a DENIAL of a newer TERM", 1, q.records(0, x -> x.deliver(denial)));
    }

    private static void recordsOfVotes() {
        Run r = new Run();
        r.expire(0); // 0 to 3, TERM 1
        r.expire(4); // 4 to 7, TERM 1
        r.expire(3);
        r.expire(3); // 12 to 15, TERM 2
        Due.is("TERM, then VOTED", 2, r.records(1, x -> x.deliver(0)));
        Due.is("of a candidate, too", 2, r.records(0, x -> x.deliver(12)));
        r.deliver(0);
        Due.is("VOTED was FROM", 0, r.records(1, x -> x.deliver(0)));
        Due.is("VOTED was another", 0, r.records(1, x -> x.deliver(5)));
        Due.is("TERM, then VOTED", 2, r.records(1, x -> x.deliver(13)));
        r.deliver(13);
        Due.is("an old TERM", 0, r.records(1, x -> x.deliver(0)));
        r.power(2, 1);
        r.deliver(1);
        r.start(2);
        r.isNode(2, 1, 1, -1);
        Due.is("VOTED alone", 1, r.records(2, x -> x.deliver(1)));
        Run behind = Run.led();
        behind.expire(4); // TERM 1, LAST 0
        behind.expire(4); // TERM 2
        int ask = behind.toOf(4, 0);
        Due.is("TERM, and a VOTE no", 1, behind.records(0, x -> x.deliver(ask)));
    }

    private static void recordsOfEntries() {
        Run r = new Run();
        r.expire(0);
        r.deliver(0);
        r.deliver(1);
        Due.is("the second VOTE", 0, r.records(0, x -> x.deliver(4)));
        r.deliver(4);
        Due.is("the third: a leader's ENTRY", 1, r.records(0, x -> x.deliver(5)));
        r.deliver(5);
        Due.is("propose", 1, r.records(0, x -> x.propose(0, 7, 0, 0)));
        Due.is("TERM and one ENTRY", 2, r.records(3, x -> x.deliver(8)));
        Due.is("one ENTRY", 1, r.records(1, x -> x.deliver(6)));
        for (int i = 0; i < 5; i++) {
            r.propose(0, 7, 0, 0);
        }
        r.beat(0);
        int four = r.toOf(0, 1);
        Due.is("four ENTRIES", 4, r.records(1, x -> x.deliver(four)));
        r.deliver(6);
        Due.is("three of them", 3, r.records(1, x -> x.deliver(four)));
        r.deliver(four);
        Due.is("none of them", 0, r.records(1, x -> x.deliver(four)));
    }

    /** NODES 0 to 2 have committed ENTRIES 1 and 2, NODE 0 has BASE 2; 3 and 4 heard nothing. */
    private static Run snapped() {
        Run r = Run.settled();
        r.run(1, 5, 55);
        r.settle(0, 1, 2);
        r.shrink(0);
        r.beat(0);
        r.isMessage(r.toOf(0, 3), Run.SNAPSHOT, 0, 3, 1, 2, 1);
        return r;
    }

    private static void recordsOfSnapshots() {
        Run r = snapped();
        int m = r.toOf(0, 3);
        Due.is("shrink", 1, r.records(1, x -> x.shrink(1)));
        Due.is("TERM and the SNAPSHOT", 2, r.records(3, x -> x.deliver(m)));
        r.deliver(2);
        Due.is("the SNAPSHOT", 1, r.records(3, x -> x.deliver(m)));
        r.deliver(m);
        Due.is("it is not needed", 0, r.records(3, x -> x.deliver(m)));
    }

    private static void noRecords() {
        Run r = Run.settled();
        r.propose(0, 1, 1, 1);
        r.beat(0);
        int first = r.toOf(0, 1);
        Due.is("beat", 0, r.records(0, x -> x.beat(0)));
        r.deliver(first);
        r.deliver(r.last());
        r.deliver(first + 1);
        int accept = r.last();
        Due.is("an ACCEPT that commits", 0, r.records(0, x -> x.deliver(accept)));
        r.deliver(accept);
        r.beat(0);
        int commit = r.toOf(0, 1);
        Due.is("an APPEND that commits", 0, r.records(1, x -> x.deliver(commit)));
        Due.is("a refused propose", 0, r.records(0, x -> {
            try {
                return x.propose(0, 9, 0, 0);
            } catch (IllegalArgumentException e) {
                return 0;
            }
        }));
        r.lead(1, 0, 2);
        r.deliver(r.toOf(1, 4));
        int denial = r.last();
        r.isMessage(denial, Run.DENIAL, 4, 1, 2, 0);
        Due.is("a DENIAL", 0, r.records(1, x -> x.deliver(denial)));
        Due.is("an APPEND that is denied again", 0, r.records(4, x -> x.deliver(denial - 1)));
    }

    private static void cutAtExpire() {
        Run r = new Run();
        r.expire(3);
        r.power(3, 0);
        Due.is("nothing is sent", 0, r.expire(3));
        Due.is("messages", 4, r.messages());
        r.isNode(3, 0, 1, 3, FOLLOWER);
        Due.is("start", 0, r.start(3));
        r.isNode(3, 1, 1, 3, FOLLOWER);
    }

    private static void cutAtTerm() {
        Run r = Run.led();
        r.expire(4);
        r.expire(4); // TERM 2
        r.power(1, 0);
        Due.is("an ASK is not answered", 0, r.deliver(r.toOf(4, 1)));
        r.isNode(1, 0, 1, 0, FOLLOWER);
        r.power(0, 0);
        r.deliver(9);
        r.isMessage(r.last(), Run.DENIAL, 4, 0, 2, 0);
        Due.is("a leader that hears of a newer TERM", 0, r.deliver(r.last()));
        r.isNode(0, 0, 1, 0, FOLLOWER, 0, 1, 0, 1);
        r.power(3, 0);
        Due.is("an APPEND is not answered", 0, r.deliver(8));
        r.isNode(3, 0, 0, -1, FOLLOWER, 0, 0, 0, 0);
    }

    private static void cutAtVoted() {
        Run r = new Run();
        r.expire(0);
        r.power(1, 1);
        Due.is("TERM is written, VOTED is not, nothing is sent", 0, r.deliver(0));
        r.isNode(1, 0, 1, -1, FOLLOWER);
        r.start(1);
        r.expire(2); // TERM 1, to NODE 1 the second
        Due.is("it may VOTE for another", 1, r.deliver(r.toOf(2, 1)));
        r.isMessage(r.last(), Run.VOTE, 1, 2, 1, 1);
    }

    private static void cutAtEntries() {
        for (int k = 0; k <= 4; k++) {
            Run r = Run.settled();
            for (int i = 0; i < 4; i++) {
                r.propose(0, 1, i, i);
            }
            r.settle(0, 2, 1);
            r.converse(8);
            Due.is("COMMIT", 5, r.node(0, 6));
            r.beat(0);
            r.power(4, 1 + k); // its TERM first
            Due.is("the APPEND", k == 4 ? 1 : 0, r.deliver(r.toOf(0, 4)));
            r.isNode(4, k == 4 ? 1 : 0, 1, -1, FOLLOWER, 0, k, k == 4 ? 4 : 0, k == 0 ? 0 : 1);
            Due.is("the last that is written", k == 0 ? 0 : 1, r.entry(4, k));
            Due.is("the one behind", -1, r.entry(4, k + 1));
            if (k < 4) {
                Due.is("start", k, r.start(4));
            }
        }
    }

    /** NODE 0 has ENTRIES 2 to 4 of TERM 1, leader 1 has 2 and 3 of TERM 2. */
    private static void cutAtReplacing() {
        for (int k = 0; k <= 3; k++) {
            Run r = Run.settled();
            for (int i = 0; i < 3; i++) {
                r.propose(0, 1, i, i);
            }
            r.lead(1, 2, 3);
            r.propose(1, 7, 0, 0);
            r.beat(1);
            r.power(0, k);
            Due.is("the APPEND", k == 3 ? 1 : 0, r.deliver(r.toOf(1, 0)));
            int[] last = {4, 4, 2, 3};
            r.isNode(0, k == 3 ? 1 : 0, k == 0 ? 1 : 2, k == 0 ? 0 : -1, FOLLOWER, 0, last[k],
                    k == 3 ? 1 : 0, k < 2 ? 1 : 2);
            Due.is("ENTRY 2", k < 2 ? 1 : 2, r.entry(0, 2));
            Due.is("ENTRY 3", k < 2 ? 1 : k == 2 ? -1 : 2, r.entry(0, 3));
            Due.is("ENTRY 4", k < 2 ? 1 : -1, r.entry(0, 4));
        }
    }

    private static void cutAtLeading() {
        Run r = new Run();
        r.expire(0);
        r.deliver(0);
        r.deliver(1);
        r.deliver(4);
        r.power(0, 0);
        Due.is("nothing is sent", 0, r.deliver(5));
        r.isNode(0, 0, 1, 0, FOLLOWER, 0, 0, 0, 0);
        r.start(0);
        Due.is("it is no candidate", 0, r.deliver(5));
        r.isNode(0, 1, 1, 0, FOLLOWER, 0, 0, 0, 0);
        r.lead(0, 3, 4);
        r.isNode(0, 1, 2, 0, LEADER, 0, 1, 0, 2);
    }

    private static void cutAtPropose() {
        Run r = Run.settled();
        r.power(0, 1);
        Due.is("RECORD 0", 2, r.propose(0, 1, 1, 1));
        Due.is("RECORD 1", 0, r.propose(0, 1, 1, 2));
        r.isNode(0, 0, 1, 0, FOLLOWER, 0, 2, 0, 1);
        r.refuses("down", STATE, x -> x.propose(0, 1, 1, 3));
        Due.is("start", 2, r.start(0));
        r.refuses("no leader", STATE, x -> x.propose(0, 1, 1, 3));
    }

    private static void cutAtShrink() {
        Run r = Run.settled();
        r.power(0, 0);
        Due.is("BASE was 0", 0, r.shrink(0));
        r.isNode(0, 0, 1, 0, FOLLOWER, 0, 1, 0, 1);
        Run q = snapped();
        q.run(1, 6, 66);
        q.power(0, 0);
        Due.is("BASE was 2", 2, q.shrink(0));
        q.isNode(0, 0, 1, 0, FOLLOWER, 2, 3, 2, 1);
        Due.is("its ENTRIES are there", 1, q.entry(0, 3));
        Due.is("start", 3, q.start(0));
        q.isStore(0, 2, 0, 0, 1, 0, 1);
        q.isKey(5, 1, 2, 2, 55);
        q.isKey(6);
    }

    private static void cutAtSnapshot() {
        Run r = snapped();
        int m = r.toOf(0, 3);
        r.power(3, 0);
        Due.is("TERM is not written", 0, r.deliver(m));
        r.isNode(3, 0, 0, -1, FOLLOWER, 0, 0, 0, 0);
        r.start(3);
        r.power(3, 1);
        Due.is("TERM is, the SNAPSHOT is not", 0, r.deliver(m));
        r.isNode(3, 0, 1, -1, FOLLOWER, 0, 0, 0, 0);
        Due.is("start", 0, r.start(3));
        r.isStore(3, 1, 0, 0, 0, 0, 0);
        r.power(3, 1);
        Due.is("it is", 1, r.deliver(m));
        r.isNode(3, 1, 1, -1, FOLLOWER, 2, 2, 2, 1, 2, 0, 0, 1, 0, 1);
        // The ENTRIES that would go by it stay if it is not written.
        Run q = Run.settled();
        q.propose(0, 1, 1, 1);
        q.propose(0, 1, 2, 2);
        q.propose(0, 1, 3, 3); // NODE 0 alone has ENTRIES 2 to 4
        q.lead(1, 2, 3);
        q.settle(1, 2, 3);
        q.shrink(1);
        q.beat(1);
        int whole = q.toOf(1, 0);
        q.isMessage(whole, Run.SNAPSHOT, 1, 0, 2, 2, 2);
        q.power(0, 1);
        Due.is("TERM is, the SNAPSHOT is not", 0, q.deliver(whole));
        q.isNode(0, 0, 2, -1, FOLLOWER, 0, 4, 0, 1);
    }

    private static void sentBefore() {
        Run r = new Run();
        r.power(0, 1);
        r.expire(0); // MESSAGES 0 to 3
        Due.is("its power fails", 0, r.expire(0));
        Due.is("messages", 4, r.messages());
        for (int m = 0; m < 4; m++) {
            Due.is("an ASK of who is down", 1, r.deliver(m));
            r.isMessage(r.last(), Run.VOTE, m + 1, 0, 1, 1);
        }
        Run q = Run.led();
        q.crash(0);
        Due.is("an APPEND of who is down", 1, q.deliver(6));
        Due.is("LAST", 1, q.node(1, 5));
    }

    private static void recordK() {
        for (int k = 0; k <= 3; k++) {
            Run r = new Run();
            r.expire(2); // what was written before does not count
            r.power(2, k);
            for (int i = 0; i < k; i++) {
                Due.is("RECORD " + i, 4, r.expire(2));
            }
            Due.is("RECORD " + k, 0, r.expire(2));
            r.isNode(2, 0, 1 + k, 2, FOLLOWER);
        }
    }

    private static void hundredRecords() {
        Run r = new Run();
        r.power(0, 100);
        for (int i = 0; i < 100; i++) {
            Due.is("RECORD " + i, 4, r.expire(0));
        }
        r.isNode(0, 1, 100, 0, CANDIDATE);
        Due.is("RECORD 100", 0, r.expire(0));
        r.isNode(0, 0, 100, 0, FOLLOWER);
    }

    private static void never() {
        Run r = new Run();
        r.power(0, 0);
        r.power(0, -1);
        for (int i = 0; i < 110; i++) {
            Due.is("expire", 4, r.expire(0));
        }
        Run q = new Run();
        for (int i = 0; i < 110; i++) {
            Due.is("nothing was told", 4, q.expire(4));
        }
    }

    private static void powerRefuses() {
        Run r = new Run();
        r.power(0, 1);
        for (int k : new int[] {-2, 101, Integer.MIN_VALUE, Integer.MAX_VALUE}) {
            r.refuses("power(0, " + k + ")", ARGUMENT, x -> {
                x.power(0, k);
                return 0;
            });
        }
        Due.is("what was told before holds", 4, r.expire(0));
        Due.is("what was told before holds", 0, r.expire(0));
        for (int k : new int[] {-1, 0, 1, 99, 100}) {
            r.power(0, k);
        }
    }

    private static void toldAnew() {
        Run r = new Run();
        r.power(1, 0);
        r.power(1, 2);
        r.expire(1);
        r.power(1, 1); // from now on
        Due.is("RECORD 0", 4, r.expire(1));
        Due.is("RECORD 1", 0, r.expire(1));
        Run q = new Run();
        q.power(1, 2);
        q.power(1, 0);
        Due.is("RECORD 0", 0, q.expire(1));
    }

    private static void forgottenWhenDown() {
        Run r = new Run();
        r.power(1, 1);
        r.restart(1);
        for (int i = 0; i < 3; i++) {
            Due.is("a crash", 4, r.expire(1));
        }
        r.power(1, 0);
        Due.is("its power fails", 0, r.expire(1));
        r.start(1);
        for (int i = 0; i < 3; i++) {
            Due.is("its power failed", 4, r.expire(1));
        }
        r.crash(1);
        r.power(1, 1);
        r.start(1);
        Due.is("told as it was down: RECORD 0", 4, r.expire(1));
        Due.is("told as it was down: RECORD 1", 0, r.expire(1));
    }

    private static void ofOneNode() {
        Run r = new Run();
        r.power(0, 0);
        r.power(4, 1);
        for (int n = 1; n <= 3; n++) {
            Due.is("another NODE", 4, r.expire(n));
            Due.is("another NODE", 4, r.expire(n));
        }
        Due.is("NODE 0", 0, r.expire(0));
        Due.is("NODE 4", 4, r.expire(4));
        Due.is("NODE 4", 0, r.expire(4));
    }

    private static void kept() {
        Run r = snapped();
        r.propose(0, 1, 1, 1);
        r.isNode(0, 1, 1, 0, LEADER, 2, 3, 2, 1);
        r.crash(0);
        for (int i = 0; i < 2; i++) {
            r.isNode(0, i, 1, 0, FOLLOWER, 2, 3, 2, 1);
            int[] terms = {-1, -1, 1, 1, -1};
            for (int index = 0; index < terms.length; index++) {
                Due.is("entry " + index, terms[index], r.entry(0, index));
            }
            if (i == 0) {
                r.isStore(0, 0, 0, 0, 0, 0, 0);
                Due.is("start", 3, r.start(0));
            }
        }
        r.isStore(0, 2, 0, 0, 1, 0, 1);
        Run voted = new Run();
        voted.expire(0);
        voted.deliver(0);
        voted.restart(1);
        voted.expire(2);
        voted.deliver(voted.toOf(2, 1));
        voted.isMessage(voted.last(), Run.VOTE, 1, 2, 1, 0);
        voted.isNode(1, 1, 1, 0, FOLLOWER);
    }

    private static void roleIsLost() {
        Run r = Run.settled();
        r.crash(0);
        Due.is("ROLE", FOLLOWER, r.node(0, 3));
        r.start(0);
        Due.is("ROLE", FOLLOWER, r.node(0, 3));
        r.refuses("it led", STATE, x -> x.beat(0));
        Run q = new Run();
        q.expire(0);
        q.crash(0);
        Due.is("ROLE", FOLLOWER, q.node(0, 3));
        q.start(0);
        Due.is("ROLE", FOLLOWER, q.node(0, 3));
    }

    private static void storeIsLost() {
        Run r = snapped();
        r.run(4, 3, 9);
        r.run(7, 0, 0);
        r.run(1, 6, 66);
        r.run(8, 2, 0);
        r.isNode(0, 1, 1, 0, LEADER, 2, 6, 6, 1, 3, 1, 2, 2, 4, 1);
        r.crash(0);
        r.isNode(0, 0, 1, 0, FOLLOWER, 2, 6, 2, 1, 0, 0, 0, 0, 0, 0);
        r.start(0);
        r.isNode(0, 1, 1, 0, FOLLOWER, 2, 6, 2, 1, 2, 0, 0, 1, 0, 1);
        r.isKey(5, 1, 2, 2, 55);
        r.isKey(6);
        r.crash(1);
        Due.is("COMMIT", 0, r.node(1, 6));
        r.start(1);
        r.isNode(1, 1, 1, 0, FOLLOWER, 0, 6, 0, 1, 1, 0, 0, 0, 0, 0);
    }

    private static void startAnswersLast() {
        Run r = new Run();
        r.crash(4);
        Due.is("nothing", 0, r.start(4));
        Run q = snapped();
        q.crash(0);
        Due.is("LAST is BASE", 2, q.start(0));
        q.crash(1);
        Due.is("LAST", 2, q.start(1));
        q.refuses("it is up", STATE, x -> x.start(1));
    }

    private static void resultsSinceStart() {
        Run r = snapped();
        Due.is("of what is in the SNAPSHOT, too", 2, r.sees(x -> x.result(0, 2)));
        r.run(1, 6, 66);
        r.shrink(0);
        Due.is("shrink changes no STORE", 2, r.sees(x -> x.result(0, 2)));
        Due.is("shrink changes no STORE", 3, r.sees(x -> x.result(0, 3)));
        r.settle(0, 1, 2);
        r.propose(0, 1, 7, 77);
        r.settle(0, 1, 2);
        r.refuses("it knows of no COMMIT 4", ELEMENT, x -> x.result(1, 4));
        r.restart(1);
        for (int i = 0; i <= 5; i++) {
            int index = i;
            r.refuses("it applied nothing since", ELEMENT, x -> x.result(1, index));
        }
        r.settle(0, 1);
        for (int i = 1; i <= 4; i++) {
            int index = i;
            Due.is("applied again", index == 1 ? 0 : index, r.sees(x -> x.result(1, index)));
        }
        r.restart(0);
        for (int i = 0; i <= 5; i++) {
            int index = i;
            r.refuses("it applied nothing since", ELEMENT, x -> x.result(0, index));
        }
        r.lead(1, 0, 2);
        r.settle(1, 0, 2);
        r.settle(1, 0);
        r.refuses("INDEX 3 is its BASE", ELEMENT, x -> x.result(0, 3));
        Due.is("INDEX 4", 4, r.sees(x -> x.result(0, 4)));
        Due.is("INDEX 5", 0, r.sees(x -> x.result(0, 5)));
        r.refuses("INDEX 6", ELEMENT, x -> x.result(0, 6));
    }

    private static void resultOfTheDown() {
        Run r = Run.settled();
        Due.is("up", 0, r.sees(x -> x.result(0, 1)));
        r.shrink(0);
        r.crash(0);
        r.refuses("down", ELEMENT, x -> x.result(0, 1));
        r.crash(1);
        r.refuses("down", ELEMENT, x -> x.result(1, 1));
    }

    private static void shrinkToCommit() {
        Run r = Run.settled();
        r.propose(0, 1, 1, 1);
        Due.is("COMMIT 1, LAST 2", 1, r.shrink(0));
        r.isNode(0, 1, 1, 0, LEADER, 1, 2, 1, 1);
        Due.is("BASE, too", 1, r.entry(0, 1));
        Due.is("ENTRY 2 stays", 1, r.entry(0, 2));
        Due.is("INDEX 0 went", -1, r.entry(0, 0));
        r.settle(0, 1, 2);
        Due.is("COMMIT is BASE + 1", 2, r.shrink(0));
        r.isNode(0, 1, 1, 0, LEADER, 2, 2, 2, 1);
        r.settle(0, 1, 2);
        r.settle(0, 2);
        Due.is("a follower", 2, r.shrink(1));
        r.expire(2);
        Due.is("a candidate", 2, r.shrink(2));
        r.isNode(2, 1, 2, 2, CANDIDATE, 2, 2, 2, 1);
    }

    private static void shrinkRefuses() {
        Run r = new Run();
        r.refuses("both are 0", STATE, x -> x.shrink(0));
        Run q = Run.settled();
        q.refuses("LAST is above, but not COMMIT", STATE, x -> x.shrink(1));
        q.shrink(0);
        q.power(0, 2);
        q.refuses("COMMIT is BASE", STATE, x -> x.shrink(0));
        q.propose(0, 1, 1, 1);
        q.refuses("COMMIT is BASE", STATE, x -> x.shrink(0));
        q.settle(0, 1, 2);
        q.crash(1);
        q.refuses("down", STATE, x -> x.shrink(1));
        Due.is("BASE", 2, q.shrink(0));
    }

    private static void snapshotIsTheStoreOfThen() {
        Run r = snapped();
        r.run(1, 5, 56);
        r.run(2, 0, 63);
        r.restart(0);
        r.isStore(0, 2, 0, 0, 1, 0, 1);
        r.isKey(5, 1, 2, 2, 55);
        // Nor does a SNAPSHOT that is under way change with the STORE it came from, or the one that took it.
        Run q = snapped();
        int toThree = q.toOf(0, 3);
        q.deliver(toThree);
        long digest = q.digest(3);
        q.deliver(q.last());
        q.propose(0, 1, 5, 57);
        q.settle(0, 1, 2, 3);
        q.settle(0, 3);
        Due.is("VALUE", 57, q.sees(x -> x.key(3, 5, 3)));
        q.deliver(toThree + 1);
        Due.is("VALUE", 55, q.sees(x -> x.key(4, 5, 3)));
        Due.is("STORE", digest, q.digest(4));
        q.restart(3);
        Due.is("STORE", digest, q.digest(3));
    }

    private static void entries() {
        Run r = Run.settled();
        r.run(7, 0, 0);
        r.run(7, 0, 0);
        r.shrink(0);
        r.propose(0, 7, 0, 0);
        int[] indexes = {Integer.MIN_VALUE, -1, 0, 2, 3, 4, 5, 1200, 1201, Integer.MAX_VALUE};
        int[] terms = {-1, -1, -1, -1, 1, 1, -1, -1, -1, -1};
        for (int down = 0; down < 2; down++) {
            for (int i = 0; i < indexes.length; i++) {
                Due.is("entry(0, " + indexes[i] + ")", terms[i], r.entry(0, indexes[i]));
            }
            if (down == 0) {
                r.crash(0);
            }
        }
        Run q = new Run();
        Due.is("BASE 0", 0, q.entry(4, 0));
        Due.is("without", -1, q.entry(4, 1));
        Due.is("without", -1, q.entry(4, -1));
    }
}
