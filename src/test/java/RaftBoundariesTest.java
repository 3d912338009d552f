import java.util.NoSuchElementException;

/** 'Terms' 2, sentence by sentence: MESSAGES, and what each TYPE of them does at its edges. */
public final class RaftBoundariesTest {
    private static final Class<IndexOutOfBoundsException> INDEX = IndexOutOfBoundsException.class;
    private static final Class<NoSuchElementException> ELEMENT = NoSuchElementException.class;
    private static final int FOLLOWER = 0;
    private static final int CANDIDATE = 1;
    private static final int LEADER = 2;

    public static void main(String[] args) {
        messages();
        terms();
        asks();
        votes();
        appendsAreSent();
        appendsCome();
        commits();
        accepts();
        denials();
        snapshots();
        Due.end();
    }

    private static void messages() {
        Due.sentence("MESSAGES are numbered as they are sent, 0, 1, ..", RaftBoundariesTest::numbers);
        Due.sentence("To send to all is to the other NODES, from 0 on", RaftBoundariesTest::toAllOthers);
        Due.sentence("They may be delivered often, or never", RaftBoundariesTest::oftenOrNever);
        Due.sentence("so are SNAPSHOTS beyond 60", RaftBoundariesTest::sixtySnapshots);
        Due.sentence("so are SNAPSHOTS beyond 60: others are not", RaftBoundariesTest::othersAreNotLost);
    }

    private static void terms() {
        Due.sentence("One that is delivered to a NODE that is down does nothing", RaftBoundariesTest::toTheDown);
        Due.sentence("if its TERM is above the NODE's, that becomes it", RaftBoundariesTest::termAbove);
        Due.sentence("VOTED none (a RECORD), ROLE follower", RaftBoundariesTest::termAboveAtLeaderAndCandidate);
        Due.sentence("If its TERM is below then", RaftBoundariesTest::termBelow);
        Due.sentence("If its TERM is below then: not if it is the same", RaftBoundariesTest::termTheSame);
    }

    private static void asks() {
        Due.sentence("if VOTED is none or FROM", RaftBoundariesTest::votedNoneOrFrom);
        Due.sentence("that TERM is above the one of its own LAST ENTRY", RaftBoundariesTest::termOfLastDiffers);
        Due.sentence("or the same and LAST not below its own", RaftBoundariesTest::lastAroundItsOwn);
        Due.sentence("its ENTRY's TERM: of the SNAPSHOT, if LAST is BASE", RaftBoundariesTest::lastIsBase);
    }

    private static void votes() {
        Due.sentence("a candidate counts FROM, if yes", RaftBoundariesTest::onlyYesCounts);
        Due.sentence("a candidate counts", RaftBoundariesTest::onlyCandidatesCount);
        Due.sentence("1 VOTE (yes or no)", RaftBoundariesTest::onlyVotesCount);
        Due.sentence("With three it is leader", RaftBoundariesTest::threeVotes);
        Due.sentence("candidate with its own VOTE", RaftBoundariesTest::votesBeginAnew);
        Due.sentence("NEXT of all LAST + 1", RaftBoundariesTest::nextBehindLast);
        Due.sentence("MATCH 0", RaftBoundariesTest::matchBeginsAnew);
    }

    private static void appendsAreSent() {
        Due.sentence("up to 4 ENTRIES behind it", RaftBoundariesTest::upToFour);
        Due.sentence("if that is below BASE, a SNAPSHOT instead", RaftBoundariesTest::previousAroundBase);
    }

    private static void appendsCome() {
        Due.sentence("Who gets it is follower", RaftBoundariesTest::candidateGetsAppend);
        Due.sentence("ENTRIES up to its BASE are passed over", RaftBoundariesTest::passedOver);
        Due.sentence("PREVIOUS becomes BASE, if that was less", RaftBoundariesTest::previousBecomesBase);
        Due.sentence("If PREVIOUS is above LAST: a DENIAL with LAST", RaftBoundariesTest::previousAroundLast);
        Due.sentence("if its TERM there is another one: with PREVIOUS - 1", RaftBoundariesTest::anotherTerm);
        Due.sentence("each ENTRY that is not there with that TERM comes", RaftBoundariesTest::nothingNewComes);
        Due.sentence("with those that it takes the place of, and all behind them, gone by it",
                RaftBoundariesTest::takesThePlace);
    }

    private static void commits() {
        Due.sentence("COMMIT becomes the APPEND's, but not above the last ENTRY of it",
                RaftBoundariesTest::commitUpToLastEntry);
        Due.sentence("(PREVIOUS without)", RaftBoundariesTest::withoutEntries);
        Due.sentence("if it is below that", RaftBoundariesTest::commitIsNotLowered);
        Due.sentence("an ACCEPT with that last INDEX (BASE, if that is above)", RaftBoundariesTest::acceptIndex);
    }

    private static void accepts() {
        Due.sentence("MATCH of FROM that, if it is below it", RaftBoundariesTest::matchIsNotLowered);
        Due.sentence("is not above MATCH of two others", RaftBoundariesTest::twoOthers);
        Due.sentence("the highest such one is COMMIT", RaftBoundariesTest::highestSuch);
        Due.sentence("whose ENTRY has its TERM", RaftBoundariesTest::ownTerm);
        Due.sentence("If NEXT is not above LAST, it sends to FROM", RaftBoundariesTest::nextAroundLast);
        Due.sentence("a leader", RaftBoundariesTest::onlyLeaders);
    }

    private static void denials() {
        Due.sentence("if NEXT of FROM is above INDEX + 1, it becomes that", RaftBoundariesTest::nextAroundIndex);
        Due.sentence("but not less than MATCH + 1", RaftBoundariesTest::notLessThanMatch);
        Due.sentence("then it sends to FROM: a SNAPSHOT", RaftBoundariesTest::denialBringsSnapshot);
    }

    private static void snapshots() {
        Due.sentence("who gets it is follower", RaftBoundariesTest::candidateGetsSnapshot);
        Due.sentence("If its COMMIT is not below that BASE: an ACCEPT with its COMMIT",
                RaftBoundariesTest::commitAroundBase);
        Due.sentence("ENTRIES behind stay, if it has the one there with that TERM",
                RaftBoundariesTest::entriesBehindStay);
        Due.sentence("else all go", RaftBoundariesTest::elseAllGo);
        Due.sentence("5 SNAPSHOT (THE STORE at BASE", RaftBoundariesTest::allOfTheStore);
        Due.sentence("RESULTS of ENTRIES are known from those that it applied since it has its STORE",
                RaftBoundariesTest::resultsSinceSnapshot);
    }

    private static void numbers() {
        Run r = new Run();
        Due.is("none", 0, r.messages());
        r.refuses("MESSAGE 0", INDEX, x -> x.deliver(0));
        r.expire(3);
        Due.is("0 to 3", 4, r.messages());
        r.isMessage(0, Run.ASK, 3, 0, 1);
        r.isMessage(3, Run.ASK, 3, 4, 1);
        r.refuses("MESSAGE 4", INDEX, x -> x.deliver(4));
        Due.is("a VOTE", 1, r.deliver(3));
        r.isMessage(4, Run.VOTE, 4, 3, 1, 1);
        Due.is("0 to 4", 5, r.messages());
    }

    private static void toAllOthers() {
        for (int n = 0; n < 5; n++) {
            Run r = new Run();
            int[] others = new int[4];
            for (int i = 0; i < 4; i++) {
                others[i] = i < n ? i : i + 1;
            }
            Due.is("ASKS", 4, r.expire(n));
            for (int i = 0; i < 4; i++) {
                r.isMessage(i, Run.ASK, n, others[i], 1);
            }
            r.deliver(0);
            r.deliver(r.last());
            r.deliver(3);
            Due.is("the first APPENDS", 4, r.deliver(r.last()));
            Due.is("a beat", 4, r.beat(n));
            for (int i = 0; i < 4; i++) {
                r.isMessage(6 + i, Run.APPEND, n, others[i], 1, 0, 0, 1);
                r.isMessage(10 + i, Run.APPEND, n, others[i], 1, 0, 0, 1);
            }
        }
    }

    private static void oftenOrNever() {
        Run r = Run.led(); // MESSAGES 2 and 3 were never delivered
        for (int i = 0; i < 3; i++) {
            Due.is("an ASK", 1, r.deliver(0));
            r.isMessage(r.last(), Run.VOTE, 1, 0, 1, 1);
            Due.is("a VOTE", 0, r.deliver(4));
        }
        for (int i = 0; i < 3; i++) {
            Due.is("an APPEND", 1, r.deliver(6));
            r.isMessage(r.last(), Run.ACCEPT, 1, 0, 1, 1);
            Due.is("an ACCEPT", 0, r.deliver(r.last()));
        }
        r.isNode(0, 1, 1, 0, LEADER, 0, 1, 0, 1);
        r.isNode(1, 1, 1, 0, FOLLOWER, 0, 1, 0, 1);
    }

    /** NODE 1 heard nothing, so that each beat sends it the SNAPSHOT at 1 of leader 0, and APPENDS to the others. */
    private static Run oneBehind() {
        Run r = new Run();
        r.lead(0, 2, 3);
        int first = r.toOf(0, 1);
        r.converse(first + 1);
        r.converse(first + 2);
        r.converse(first + 3);
        Due.is("BASE", 1, r.shrink(0));
        return r;
    }

    private static void sixtySnapshots() {
        Run r = oneBehind();
        for (int i = 1; i <= 60; i++) {
            Due.is("the SNAPSHOT of beat " + i, 4, r.beat(0));
        }
        int sixtieth = r.toOf(0, 1);
        r.isMessage(sixtieth, Run.SNAPSHOT, 0, 1, 1, 1, 1);
        int before = r.messages();
        Due.is("the 61st is lost", 3, r.beat(0));
        Due.is("messages", before + 3, r.messages());
        r.isMessage(before, Run.APPEND, 0, 2, 1, 1, 1, 0, 1);
        r.isMessage(before + 2, Run.APPEND, 0, 4, 1, 1, 1, 0, 1);
    }

    private static void othersAreNotLost() {
        Run r = oneBehind();
        for (int i = 1; i <= 59; i++) {
            r.beat(0);
        }
        r.propose(0, 7, 0, 0);
        r.beat(0);
        int sixtieth = r.toOf(0, 1);
        Due.is("the 60th is taken", 1, r.deliver(sixtieth));
        r.isNode(1, 1, 1, -1, FOLLOWER, 1, 1, 1, 1);
        Due.is("an APPEND comes by the ACCEPT of it", 1, r.deliver(r.last()));
        r.isMessage(r.last(), Run.APPEND, 0, 1, 1, 1, 1, 1, 1);
        r.converse(r.last());
        r.deliver(sixtieth + 2);
        int accept = r.last(); // of NODE 3, with 2
        r.converse(sixtieth + 1); // ENTRY 2 is committed, with NODES 1 and 2
        Due.is("BASE", 2, r.shrink(0));
        Due.is("the SNAPSHOTS for NODES 3 and 4 are lost", 2, r.beat(0));
        r.isMessage(r.last(), Run.APPEND, 0, 2, 1, 2, 1, 0, 2);
        Due.is("NODE 3 has all of it", 0, r.deliver(accept));
        Due.is("so only the SNAPSHOT for NODE 4 is lost", 3, r.beat(0));
        r.isMessage(r.last(), Run.APPEND, 0, 3, 1, 2, 1, 0, 2);
    }

    private static void toTheDown() {
        Run r = Run.settled(); // ACCEPTS are 10 and 11
        r.propose(0, 7, 0, 0);
        r.shrink(0);
        r.expire(4); // TERM 1
        r.expire(4); // TERM 2
        int ask = r.toOf(4, 0);
        r.beat(0);
        int snapshot = r.toOf(0, 3);
        r.deliver(snapshot + 1); // NODE 4 denies, of TERM 2
        int denial = r.last();
        for (int n = 0; n < 4; n++) {
            r.crash(n);
        }
        int before = r.messages();
        int[] all = {ask, ask + 1, 4, 5, 6, 7, 10, 11, denial, snapshot};
        for (int m : all) {
            Due.is("deliver(" + m + ")", 0, r.deliver(m));
        }
        Due.is("messages", before, r.messages());
        r.isNode(0, 0, 1, 0, FOLLOWER, 1, 2, 1, 1);
        r.isNode(1, 0, 1, 0, FOLLOWER, 0, 1, 0, 1);
        r.isNode(3, 0, 0, -1, FOLLOWER, 0, 0, 0, 0);
        r.start(3);
        Due.is("delivered again to who is up", 1, r.deliver(snapshot));
        r.isNode(3, 1, 1, -1, FOLLOWER, 1, 1, 1, 1);
    }

    /** Of each TYPE one MESSAGE of TERM 2 to NODE 1, that has TERM 1 and VOTED 0. */
    private static void termAbove() {
        Run asked = Run.led();
        asked.expire(3);
        asked.expire(3);
        asked.deliver(asked.toOf(3, 1));
        asked.isNode(1, 1, 2, 3, FOLLOWER); // it has nothing, as NODE 3: it VOTES at once
        Run behind = Run.led();
        behind.deliver(6);
        behind.expire(3);
        behind.expire(3);
        behind.deliver(behind.toOf(3, 1));
        behind.isNode(1, 1, 2, -1, FOLLOWER);
        behind.isMessage(behind.last(), Run.VOTE, 1, 3, 2, 0);
        Run appended = Run.led();
        appended.expire(3);
        appended.lead(3, 2, 4); // TERM 2
        appended.deliver(appended.toOf(3, 1));
        appended.isNode(1, 1, 2, -1, FOLLOWER, 0, 1, 0, 2);
        appended.isMessage(appended.last(), Run.ACCEPT, 1, 3, 2, 1);
        Run snapped = Run.led();
        snapped.expire(3);
        snapped.lead(3, 2, 4);
        int first = snapped.toOf(3, 2);
        snapped.converse(first);
        snapped.converse(first + 1);
        snapped.shrink(3);
        snapped.beat(3);
        snapped.deliver(snapped.toOf(3, 1));
        snapped.isNode(1, 1, 2, -1, FOLLOWER, 1, 1, 1, 2);
    }

    private static void termAboveAtLeaderAndCandidate() {
        Run r = Run.led(); // NODE 0 leads TERM 1
        r.expire(3);
        r.expire(3); // TERM 2
        r.deliver(r.toOf(3, 0));
        r.isMessage(r.last(), Run.VOTE, 0, 3, 2, 0);
        r.isNode(0, 1, 2, -1, FOLLOWER, 0, 1, 0, 1);
        r.deliver(r.last());
        r.isNode(3, 1, 2, 3, CANDIDATE);
        r.expire(4); // TERM 1
        r.isNode(4, 1, 1, 4, CANDIDATE);
        r.deliver(9); // an APPEND of TERM 1: it is follower, and VOTED stays
        r.isNode(4, 1, 1, 4, FOLLOWER, 0, 1, 0, 1);
        Run q = new Run();
        q.expire(0);
        q.expire(1);
        q.expire(1);
        q.deliver(0); // an ASK of TERM 1 to NODE 1, that has TERM 2
        q.isMessage(q.last(), Run.VOTE, 1, 0, 2, 0);
        Due.is("a VOTE of TERM 2, at a candidate of TERM 1", 0, q.deliver(q.last()));
        q.isNode(0, 1, 2, -1, FOLLOWER);
        Run d = Run.led();
        d.expire(4);
        d.expire(4);
        d.deliver(9);
        d.isMessage(d.last(), Run.DENIAL, 4, 0, 2, 0);
        Due.is("a DENIAL of TERM 2, at a leader of TERM 1", 0, d.deliver(d.last()));
        d.isNode(0, 1, 2, -1, FOLLOWER, 0, 1, 0, 1);
        Due.is("it was leader", 4, d.expire(0));
        accepted();
    }

    /** NODE 3 leads TERM 2 and goes down; an ACCEPT of TERM 2 to it is of the same TERM, but one of TERM 3 above. */
    private static void accepted() {
        Run r = Run.led();
        r.expire(1); // NODE 1 is candidate of TERM 2
        r.deliver(r.toOf(1, 0));
        int vote = r.last();
        r.isMessage(vote, Run.VOTE, 0, 1, 2, 0);
        Due.is("a VOTE no of the same TERM", 0, r.deliver(vote));
        r.isNode(1, 1, 2, 1, CANDIDATE);
        r.deliver(7);
        int accept = r.last();
        r.isMessage(accept, Run.ACCEPT, 2, 0, 1, 1);
        Due.is("an ACCEPT of TERM 1, at TERM 2", 0, r.deliver(accept));
        r.isNode(0, 1, 2, -1, FOLLOWER, 0, 1, 0, 1);
    }

    private static void termBelow() {
        Run r = Run.settled();
        int accept = 10;
        r.isMessage(accept, Run.ACCEPT, 1, 0, 1, 1);
        r.shrink(0);
        r.beat(0);
        int snapshot = r.toOf(0, 3);
        r.isMessage(snapshot, Run.SNAPSHOT, 0, 3, 1, 1, 1);
        int append = 8; // to NODE 3
        r.expire(3);
        r.expire(3); // TERM 2
        Due.is("an ASK", 1, r.deliver(2));
        r.isMessage(r.last(), Run.VOTE, 3, 0, 2, 0);
        Due.is("an APPEND", 1, r.deliver(append));
        r.isMessage(r.last(), Run.DENIAL, 3, 0, 2, 0);
        Due.is("a SNAPSHOT", 1, r.deliver(snapshot));
        r.isMessage(r.last(), Run.DENIAL, 3, 0, 2, 0);
        r.isNode(3, 1, 2, 3, CANDIDATE, 0, 0, 0, 0);
        r.deliver(r.last()); // NODE 0 has TERM 2 now
        Due.is("a VOTE", 0, r.deliver(4));
        Due.is("an ACCEPT", 0, r.deliver(accept));
        r.isNode(0, 1, 2, -1, FOLLOWER, 1, 1, 1, 1);
        r.expire(1); // TERM 2, LAST 1
        Due.is("an APPEND, to who has ENTRIES", 1, r.deliver(6));
        r.isMessage(r.last(), Run.DENIAL, 1, 0, 2, 1);
        r.isNode(1, 1, 2, 1, CANDIDATE, 0, 1, 0, 1);
        int denial = r.last();
        r.expire(0); // TERM 3
        Due.is("a DENIAL", 0, r.deliver(denial));
        r.isNode(0, 1, 3, 0, CANDIDATE);
        Run q = snapshotAtThree(new int[5]);
        int whole = q.toOf(0, 3);
        q.expire(3); // TERM 2, LAST 1
        Due.is("a SNAPSHOT, to who has ENTRIES", 1, q.deliver(whole));
        q.isMessage(q.last(), Run.DENIAL, 3, 0, 2, 1);
        q.isNode(3, 1, 2, 3, CANDIDATE, 0, 1, 0, 1);
    }

    private static void termTheSame() {
        Run r = new Run();
        r.expire(4); // TERM 1
        r.lead(0, 1, 2); // TERM 1
        Due.is("an APPEND is taken", 1, r.deliver(r.toOf(0, 4)));
        r.isMessage(r.last(), Run.ACCEPT, 4, 0, 1, 1);
        r.isNode(4, 1, 1, 4, FOLLOWER, 0, 1, 0, 1);
        Run q = new Run();
        q.expire(0);
        q.expire(1); // TERM 1 both
        Due.is("an ASK is answered", 1, q.deliver(0));
        q.isNode(1, 1, 1, 1, CANDIDATE);
    }

    private static void votedNoneOrFrom() {
        Run r = new Run();
        r.expire(0); // 0 to 3
        r.expire(1); // 4 to 7
        r.expire(4); // 8 to 11
        Due.is("VOTED none", 1, r.deliver(1));
        r.isMessage(r.last(), Run.VOTE, 2, 0, 1, 1);
        Due.is("VOTED FROM", 1, r.deliver(1));
        r.isMessage(r.last(), Run.VOTE, 2, 0, 1, 1);
        Due.is("VOTED another", 1, r.deliver(5));
        r.isMessage(r.last(), Run.VOTE, 2, 1, 1, 0);
        Due.is("VOTED another", 1, r.deliver(10));
        r.isMessage(r.last(), Run.VOTE, 2, 4, 1, 0);
        r.isNode(2, 1, 1, 0, FOLLOWER);
        Due.is("a candidate VOTED itself", 1, r.deliver(4));
        r.isMessage(r.last(), Run.VOTE, 0, 1, 1, 0);
        r.isNode(0, 1, 1, 0, CANDIDATE);
        r.restart(2);
        Due.is("another, as its disk has it", 1, r.deliver(5));
        r.isMessage(r.last(), Run.VOTE, 2, 1, 1, 0);
        Due.is("VOTED for the first and the last NODE", 1, r.deliver(11));
        r.isMessage(r.last(), Run.VOTE, 3, 4, 1, 1);
        Due.is("not for another", 1, r.deliver(2));
        r.isMessage(r.last(), Run.VOTE, 3, 0, 1, 0);
    }

    /** NODES 0 and 3 have ENTRIES 1 to 4 of TERM 1; NODE 1 has 1 of TERM 1 and 2 of TERM 2. */
    private static Run partedLogs() {
        Run r = Run.led();
        r.deliver(6);
        r.deliver(7);
        r.deliver(9);
        for (int i = 0; i < 3; i++) {
            r.propose(0, 1, i, i);
        }
        r.beat(0);
        r.deliver(r.toOf(0, 3));
        r.lead(1, 2, 4);
        r.isNode(1, 1, 2, 1, LEADER, 0, 2, 0, 2);
        r.isNode(3, 1, 1, -1, FOLLOWER, 0, 4, 0, 1);
        return r;
    }

    private static void termOfLastDiffers() {
        Run r = partedLogs();
        r.restart(1);
        r.expire(1); // TERM 3
        r.isMessage(r.toOf(1, 3), Run.ASK, 1, 3, 3, 2, 2);
        r.deliver(r.toOf(1, 3));
        r.isMessage(r.last(), Run.VOTE, 3, 1, 3, 1);
        Run q = partedLogs();
        q.expire(3);
        q.expire(3); // TERM 3
        q.isMessage(q.toOf(3, 1), Run.ASK, 3, 1, 3, 4, 1);
        q.deliver(q.toOf(3, 1));
        q.isMessage(q.last(), Run.VOTE, 1, 3, 3, 0);
    }

    /** NODE 3 has ENTRIES 1 and 2; NODE 1 has one less, 2 the same, 4 one more; all of TERM 1. */
    private static Run threeLengths() {
        Run r = Run.led();
        r.deliver(6);
        r.propose(0, 7, 0, 0);
        r.beat(0);
        r.deliver(r.toOf(0, 2));
        r.deliver(r.last() - 2); // to NODE 3: one ACCEPT came since
        r.propose(0, 7, 0, 0);
        r.beat(0);
        r.deliver(r.toOf(0, 4));
        int[] last = {3, 1, 2, 2, 3};
        for (int n = 0; n < 5; n++) {
            Due.is("LAST of NODE " + n, last[n], r.node(n, 5));
        }
        return r;
    }

    private static void lastAroundItsOwn() {
        int[] candidates = {1, 2, 4};
        int[] yes = {0, 1, 1};
        for (int i = 0; i < 3; i++) {
            Run r = threeLengths();
            r.expire(candidates[i]);
            r.deliver(r.toOf(candidates[i], 3));
            r.isMessage(r.last(), Run.VOTE, 3, candidates[i], 2, yes[i]);
            Due.is("VOTED", yes[i] == 1 ? candidates[i] : -1, r.node(3, 2));
        }
        Run empty = new Run();
        empty.expire(0);
        empty.deliver(0);
        empty.isMessage(4, Run.VOTE, 1, 0, 1, 1);
    }

    /** NODES 1 and 2 have LAST 2 of TERM 1, which is BASE of NODE 1; NODE 3 has LAST 1 of TERM 1, NODE 4 nothing. */
    private static void lastIsBase() {
        Run r = matches();
        r.settle(0, 1, 2);
        r.shrink(1);
        r.isNode(1, 1, 1, 0, FOLLOWER, 2, 2, 2, 1);
        r.expire(3); // TERM 2
        r.deliver(r.toOf(3, 1));
        r.isMessage(r.last(), Run.VOTE, 1, 3, 2, 0); // the same TERM, LAST is below
        r.expire(4);
        r.expire(4);
        r.expire(4); // TERM 3
        r.deliver(r.toOf(4, 1));
        r.isMessage(r.last(), Run.VOTE, 1, 4, 3, 0);
        r.expire(2);
        r.expire(2);
        r.expire(2); // TERM 4
        r.deliver(r.toOf(2, 1));
        r.isMessage(r.last(), Run.VOTE, 1, 2, 4, 1); // the same TERM and LAST
        r.expire(1); // TERM 5
        r.isMessage(r.toOf(1, 2), Run.ASK, 1, 2, 5, 2, 1);
        r.deliver(r.toOf(1, 2));
        r.isMessage(r.last(), Run.VOTE, 2, 1, 5, 1);
    }

    private static void onlyYesCounts() {
        Run r = new Run();
        r.expire(0); // 0 to 3
        r.expire(1); // 4 to 7
        r.expire(2); // 8 to 11
        r.deliver(0); // no, by NODE 1
        r.deliver(1); // no, by NODE 2
        Due.is("a no", 0, r.deliver(12));
        Due.is("another no", 0, r.deliver(13));
        r.isNode(0, 1, 1, 0, CANDIDATE, 0, 0);
        r.deliver(2);
        Due.is("a yes", 0, r.deliver(14));
        r.isNode(0, 1, 1, 0, CANDIDATE, 0, 0);
        r.deliver(3);
        Due.is("the third", 4, r.deliver(15));
        r.isNode(0, 1, 1, 0, LEADER, 0, 1);
    }

    private static void onlyCandidatesCount() {
        Run r = new Run();
        r.expire(0);
        for (int m = 0; m < 4; m++) {
            r.deliver(m); // VOTES are 4 to 7
        }
        r.restart(0);
        for (int m = 4; m < 8; m++) {
            Due.is("a follower", 0, r.deliver(m));
        }
        r.isNode(0, 1, 1, 0, FOLLOWER, 0, 0);
        r.expire(0); // TERM 2
        for (int m = 4; m < 8; m++) {
            Due.is("VOTES of TERM 1", 0, r.deliver(m));
        }
        r.isNode(0, 1, 2, 0, CANDIDATE, 0, 0);
        Run q = Run.led();
        q.deliver(2);
        Due.is("a leader", 0, q.deliver(q.last()));
        q.isNode(0, 1, 1, 0, LEADER, 0, 1);
        Due.is("an ENTRY came once", -1, q.entry(0, 2));
    }

    /** Three candidates of TERM 2 with LAST 1, a number that is a yes in a VOTE. */
    private static void onlyVotesCount() {
        Run r = Run.settled();
        r.restart(0);
        int[] asks = new int[3];
        for (int n = 0; n < 3; n++) {
            r.expire(n);
            asks[n] = r.toOf(n, n == 0 ? 1 : 0);
            r.isMessage(asks[n], Run.ASK, n, n == 0 ? 1 : 0, 2, 1, 1);
        }
        for (int n = 1; n < 3; n++) {
            Due.is("an ASK", 1, r.deliver(asks[n]));
            r.isMessage(r.last(), Run.VOTE, 0, n, 2, 0);
            r.isNode(0, 1, 2, 0, CANDIDATE, 0, 1, 0, 1);
        }
    }

    private static void threeVotes() {
        Run r = new Run();
        r.expire(2);
        for (int m = 0; m < 4; m++) {
            r.deliver(m); // VOTES are 4 to 7
        }
        Due.is("its own, and one", 0, r.deliver(7));
        Due.is("the same one again", 0, r.deliver(7));
        r.deliver(3);
        Due.is("its like", 0, r.deliver(r.last()));
        r.isNode(2, 1, 1, 2, CANDIDATE, 0, 0);
        Due.is("the third", 4, r.deliver(4));
        r.isNode(2, 1, 1, 2, LEADER, 0, 1, 0, 1);
        Due.is("the fourth", 0, r.deliver(5));
        Due.is("the fifth", 0, r.deliver(6));
        r.isNode(2, 1, 1, 2, LEADER, 0, 1, 0, 1);
    }

    private static void votesBeginAnew() {
        Run r = new Run();
        r.expire(0);
        r.deliver(0);
        r.deliver(4); // two VOTES
        r.expire(0); // 5 to 8, TERM 2
        r.deliver(6);
        Due.is("one besides its own", 0, r.deliver(r.last()));
        r.isNode(0, 1, 2, 0, CANDIDATE);
        r.restart(0);
        r.expire(0); // TERM 3
        r.deliver(r.toOf(0, 3));
        Due.is("one besides its own", 0, r.deliver(r.last()));
        r.isNode(0, 1, 3, 0, CANDIDATE);
        r.deliver(r.last() - 1); // the ASK to NODE 4
        Due.is("the third", 4, r.deliver(r.last()));
        r.isNode(0, 1, 3, 0, LEADER);
    }

    private static void nextBehindLast() {
        Run r = Run.settled();
        r.run(7, 0, 0);
        r.settle(0, 1, 2);
        r.lead(1, 2, 3); // LAST was 2
        r.isNode(1, 1, 2, 1, LEADER, 0, 3, 2, 2);
        for (int n : new int[] {0, 2, 3, 4}) {
            r.isMessage(r.toOf(1, n), Run.APPEND, 1, n, 2, 2, 1, 1, 2);
        }
    }

    /** NODE 1 had ENTRIES up to 4 of NODE 0, that lost them itself: in TERM 3 they count nothing for it. */
    private static void matchBeginsAnew() {
        Run r = Run.settled();
        for (int i = 0; i < 3; i++) {
            r.propose(0, 1, i, i);
        }
        r.settle(0, 1); // MATCH of NODE 1 is 4
        r.lead(2, 3, 4); // TERM 2, ENTRY 2 of it
        r.converse(r.toOf(2, 0));
        r.isNode(0, 1, 2, -1, FOLLOWER, 0, 2, 1, 2);
        r.lead(0, 3, 4); // TERM 3, ENTRY 3 of it
        r.isNode(0, 1, 3, 0, LEADER, 0, 3, 1, 3);
        r.isMessage(r.toOf(0, 1), Run.APPEND, 0, 1, 3, 2, 2, 1, 1);
        r.converse(r.toOf(0, 3)); // its LOG is empty: a DENIAL, then all three
        Due.is("LAST", 3, r.node(3, 5));
        Due.is("COMMIT: NODE 3 alone has ENTRY 3", 1, r.node(0, 6));
    }

    private static void upToFour() {
        Run r = Run.settled();
        for (int behind = 0; behind <= 5; behind++) {
            r.beat(0);
            r.isMessage(r.toOf(0, 1), Run.APPEND, 0, 1, 1, 1, 1, Math.min(behind, 4), 1);
            r.propose(0, 7, 0, 0); // ENTRY 2 and so on
        }
        r.beat(0);
        Due.is("taken", 1, r.deliver(r.toOf(0, 1)));
        Due.is("ENTRIES 2 to 5", 5, r.node(1, 5));
        r.deliver(r.last());
        r.isMessage(r.last(), Run.APPEND, 0, 1, 1, 5, 1, 2, 1);
    }

    /** NODES 1 and 2 match leader 0's ENTRY 2, NODE 3 its ENTRY 1, NODE 4 none. */
    private static Run matches() {
        Run r = Run.settled();
        r.converse(8);
        r.propose(0, 1, 9, 9);
        r.settle(0, 1, 2);
        return r;
    }

    private static void previousAroundBase() {
        Run r = matches();
        r.beat(0);
        r.isMessage(r.toOf(0, 3), Run.APPEND, 0, 3, 1, 1, 1, 1, 2);
        Due.is("BASE", 2, r.shrink(0));
        r.beat(0);
        r.isMessage(r.toOf(0, 1), Run.APPEND, 0, 1, 1, 2, 1, 0, 2);
        r.isMessage(r.toOf(0, 2), Run.APPEND, 0, 2, 1, 2, 1, 0, 2);
        r.isMessage(r.toOf(0, 3), Run.SNAPSHOT, 0, 3, 1, 2, 1);
        r.isMessage(r.toOf(0, 4), Run.SNAPSHOT, 0, 4, 1, 2, 1);
    }

    private static void candidateGetsAppend() {
        Run r = new Run();
        r.expire(4);
        r.deliver(3);
        r.deliver(r.last()); // candidate of TERM 1 with two VOTES
        r.lead(0, 1, 2);
        int append = r.toOf(0, 4);
        r.isNode(4, 1, 1, 4, CANDIDATE);
        r.deliver(append);
        r.isNode(4, 1, 1, 4, FOLLOWER, 0, 1, 0, 1);
        Run denied = new Run();
        denied.lead(0, 1, 2);
        denied.deliver(6);
        denied.deliver(7);
        denied.expire(4);
        denied.expire(4); // TERM 2
        denied.lead(1, 2, 3); // TERM 2, PREVIOUS 1
        denied.deliver(denied.toOf(1, 4));
        denied.isMessage(denied.last(), Run.DENIAL, 4, 1, 2, 0);
        denied.isNode(4, 1, 2, 4, FOLLOWER, 0, 0);
    }

    /** NODE 1's BASE is 3; leader 0 sent it PREVIOUS 1 with ENTRIES up to 2, 3, 4 and 5, in the MESSAGES upTo. */
    private static Run baseThree(int[] upTo) {
        Run r = Run.settled();
        for (int last = 2; last <= 5; last++) {
            r.propose(0, 1, last, last);
            r.beat(0);
            upTo[last] = r.toOf(0, 1);
            r.isMessage(upTo[last], Run.APPEND, 0, 1, 1, 1, 1, last - 1, last <= 3 ? 1 : 3);
            if (last == 3) {
                r.converse(r.toOf(0, 2));
                r.beat(0);
                r.deliver(r.toOf(0, 3)); // a DENIAL: NODE 3 has nothing
                r.converse(r.last());
                Due.is("COMMIT", 3, r.node(0, 6));
                // NODE 1 does not answer, so its NEXT stays.
                r.beat(0);
                r.deliver(r.toOf(0, 1));
                Due.is("BASE", 3, r.shrink(1));
                r.restart(1);
            }
        }
        return r;
    }

    private static void passedOver() {
        int[] due = {0, 0, 3, 3, 4, 5};
        for (int last = 2; last <= 5; last++) {
            int[] upTo = new int[6];
            Run r = baseThree(upTo);
            int m = upTo[last];
            Due.is("RECORDS for what is behind BASE", Math.max(0, last - 3), r.records(1, x -> x.deliver(m)));
            Due.is("append", 1, r.deliver(m));
            r.isMessage(r.last(), Run.ACCEPT, 1, 0, 1, due[last]);
            r.isNode(1, 1, 1, 0, FOLLOWER, 3, due[last], 3, 1);
        }
    }

    private static void previousBecomesBase() {
        Run r = Run.settled();
        r.beat(0);
        int without = r.toOf(0, 1);
        r.isMessage(without, Run.APPEND, 0, 1, 1, 1, 1, 0, 1);
        r.propose(0, 7, 0, 0);
        r.settle(0, 1, 2);
        r.settle(0, 1, 2);
        Due.is("BASE", 2, r.shrink(1));
        Due.is("PREVIOUS 1, without ENTRIES", 1, r.deliver(without));
        r.isMessage(r.last(), Run.ACCEPT, 1, 0, 1, 2);
        Due.is("PREVIOUS 0, whose TERM is another than BASE's", 1, r.deliver(6));
        r.isMessage(r.last(), Run.ACCEPT, 1, 0, 1, 2);
        r.beat(0);
        r.isMessage(r.toOf(0, 1), Run.APPEND, 0, 1, 1, 2, 1, 0, 2);
        Due.is("PREVIOUS is BASE", 1, r.deliver(r.toOf(0, 1)));
        r.isMessage(r.last(), Run.ACCEPT, 1, 0, 1, 2);
        r.isNode(1, 1, 1, 0, FOLLOWER, 2, 2, 2, 1);
    }

    /** Leader 1 of TERM 2 sends PREVIOUS 3; NODE 2 has LAST 3, NODE 3 LAST 2, NODE 4 nothing. */
    private static void previousAroundLast() {
        Run r = Run.settled();
        r.propose(0, 7, 0, 0);
        r.beat(0);
        r.deliver(r.toOf(0, 3)); // PREVIOUS 0: both ENTRIES
        Due.is("LAST of NODE 3", 2, r.node(3, 5));
        r.propose(0, 7, 0, 0);
        r.settle(0, 1, 2);
        r.lead(1, 2, 3);
        int first = r.toOf(1, 0);
        r.isMessage(first + 1, Run.APPEND, 1, 2, 2, 3, 1, 1, 1);
        Due.is("PREVIOUS is LAST", 1, r.deliver(first + 1));
        r.isMessage(r.last(), Run.ACCEPT, 2, 1, 2, 4);
        Due.is("PREVIOUS is one above LAST", 1, r.deliver(first + 2));
        r.isMessage(r.last(), Run.DENIAL, 3, 1, 2, 2);
        Due.is("LAST", 2, r.node(3, 5));
        Due.is("LAST is 0", 1, r.deliver(first + 3));
        r.isMessage(r.last(), Run.DENIAL, 4, 1, 2, 0);
        r.isNode(4, 1, 2, -1, FOLLOWER, 0, 0, 0, 0);
    }

    /** NODE 0 alone has ENTRIES 1 to 4 of TERM 1; 2 leads TERM 3 with ENTRIES 1 to 3 of TERM 2, then 4. */
    private static Run anotherHistory() {
        Run r = Run.led();
        for (int i = 0; i < 3; i++) {
            r.propose(0, 1, i, i);
        }
        r.expire(1); // TERM 2
        r.deliver(r.toOf(1, 2));
        r.deliver(r.last());
        r.deliver(r.last() - 2); // the ASK to NODE 3
        r.deliver(r.last());
        r.propose(1, 1, 7, 70);
        r.propose(1, 1, 8, 80);
        r.settle(1, 2, 3);
        r.lead(2, 1, 3);
        r.isNode(2, 1, 3, 2, LEADER, 0, 4, 0, 3);
        r.isNode(0, 1, 1, 0, LEADER, 0, 4, 0, 1);
        return r;
    }

    private static void anotherTerm() {
        Run r = anotherHistory();
        int m = r.toOf(2, 0);
        r.isMessage(m, Run.APPEND, 2, 0, 3, 3, 2, 1, 0);
        for (int index = 2; index >= 0; index--) {
            Due.is("append", 1, r.deliver(m));
            r.isMessage(r.last(), Run.DENIAL, 0, 2, 3, index);
            Due.is("LAST stays", 4, r.node(0, 5));
            Due.is("it goes back", 1, r.deliver(r.last()));
            m = r.last();
        }
        r.isMessage(m, Run.APPEND, 2, 0, 3, 0, 0, 4, 0);
        Due.is("append", 1, r.deliver(m));
        r.isMessage(r.last(), Run.ACCEPT, 0, 2, 3, 4);
        r.isNode(0, 1, 3, -1, FOLLOWER, 0, 4, 0, 3);
    }

    private static void nothingNewComes() {
        Run r = Run.settled();
        r.propose(0, 1, 1, 1);
        r.beat(0);
        int shorter = r.toOf(0, 1); // PREVIOUS 1, ENTRY 2
        r.propose(0, 1, 1, 2);
        r.propose(0, 1, 1, 3);
        r.settle(0, 1);
        r.isNode(1, 1, 1, 0, FOLLOWER, 0, 4, 1, 1);
        Due.is("RECORDS", 0, r.records(1, x -> x.deliver(shorter)));
        Due.is("one that is there", 1, r.deliver(shorter));
        r.isMessage(r.last(), Run.ACCEPT, 1, 0, 1, 2);
        r.isNode(1, 1, 1, 0, FOLLOWER, 0, 4, 1, 1);
        Due.is("ENTRIES behind it stay", 1, r.entry(1, 4));
    }

    /** NODE 0 has ENTRIES 1 to 5 of TERM 1; leader 1 has 1 and 2 of TERM 1, and 3 of TERM 2. */
    private static void takesThePlace() {
        Run r = Run.settled();
        r.propose(0, 1, 1, 1);
        r.settle(0, 1, 2);
        for (int i = 0; i < 3; i++) {
            r.propose(0, 1, 2, i);
        }
        r.lead(1, 2, 3);
        r.isMessage(r.toOf(1, 0), Run.APPEND, 1, 0, 2, 2, 1, 1, 1);
        int m = r.toOf(1, 0);
        Due.is("RECORDS: TERM and one ENTRY", 2, r.records(0, x -> x.deliver(m)));
        Due.is("append", 1, r.deliver(m));
        r.isMessage(r.last(), Run.ACCEPT, 0, 1, 2, 3);
        r.isNode(0, 1, 2, -1, FOLLOWER, 0, 3, 2, 2);
        int[] terms = {0, 1, 1, 2, -1, -1};
        for (int index = 0; index < terms.length; index++) {
            Due.is("entry " + index, terms[index], r.entry(0, index));
        }
        r.restart(0);
        Due.is("they are gone from the disk", 3, r.node(0, 5));
    }

    private static void commitUpToLastEntry() {
        Run r = Run.settled();
        for (int i = 0; i < 6; i++) {
            r.propose(0, 1, i, i);
        }
        r.settle(0, 1, 2);
        Due.is("COMMIT", 7, r.node(0, 6));
        r.beat(0);
        int m = r.toOf(0, 3);
        r.isMessage(m, Run.APPEND, 0, 3, 1, 0, 0, 4, 7);
        r.deliver(m);
        r.isNode(3, 1, 1, -1, FOLLOWER, 0, 4, 4, 1);
        Due.is("REVISION", 4, r.node(3, 8));
        r.converse(r.last());
        r.isNode(3, 1, 1, -1, FOLLOWER, 0, 7, 7, 1);
        r.restart(3);
        r.deliver(m);
        r.isNode(3, 1, 1, -1, FOLLOWER, 0, 7, 4, 1); // though it has more ENTRIES than the APPEND
        r.propose(0, 1, 9, 9);
        r.settle(0, 1);
        Due.is("COMMIT below the last ENTRY of it", 7, r.node(1, 6));
        Due.is("LAST", 8, r.node(1, 5));
    }

    private static void withoutEntries() {
        Run r = Run.settled();
        r.isNode(1, 1, 1, 0, FOLLOWER, 0, 1, 0, 1);
        r.beat(0);
        r.isMessage(r.toOf(0, 1), Run.APPEND, 0, 1, 1, 1, 1, 0, 1);
        r.deliver(r.toOf(0, 1));
        r.isMessage(r.last(), Run.ACCEPT, 1, 0, 1, 1);
        r.isNode(1, 1, 1, 0, FOLLOWER, 0, 1, 1, 1);
        Due.is("it is applied", 0, r.sees(x -> x.result(1, 1)));
        Due.is("nothing is left to send", 0, r.deliver(r.last()));
    }

    private static void commitIsNotLowered() {
        Run r = Run.settled();
        r.beat(0);
        int old = r.toOf(0, 1); // COMMIT 1
        r.propose(0, 1, 1, 1);
        r.settle(0, 1, 2);
        r.settle(0, 1, 2);
        Due.is("COMMIT", 2, r.node(1, 6));
        long digest = r.digest(1);
        r.deliver(old);
        Due.is("COMMIT", 2, r.node(1, 6));
        r.deliver(6); // COMMIT 0
        Due.is("COMMIT", 2, r.node(1, 6));
        Due.is("nothing is applied twice", digest, r.digest(1));
        r.beat(0);
        r.deliver(r.toOf(0, 1)); // COMMIT 2 again
        Due.is("nothing is applied twice", digest, r.digest(1));
    }

    private static void acceptIndex() {
        int[] upTo = new int[6];
        Run r = baseThree(upTo);
        r.deliver(upTo[2]);
        r.isMessage(r.last(), Run.ACCEPT, 1, 0, 1, 3);
        r.deliver(upTo[5]);
        r.isMessage(r.last(), Run.ACCEPT, 1, 0, 1, 5);
        r.deliver(upTo[4]);
        r.isMessage(r.last(), Run.ACCEPT, 1, 0, 1, 4);
        Due.is("LAST", 5, r.node(1, 5));
    }

    private static void matchIsNotLowered() {
        Run r = Run.settled(); // 10 is the ACCEPT of NODE 1 with 1
        r.propose(0, 7, 0, 0);
        r.propose(0, 7, 0, 0);
        r.settle(0, 1);
        Due.is("an ACCEPT with less", 0, r.deliver(10));
        r.beat(0);
        r.isMessage(r.toOf(0, 1), Run.APPEND, 0, 1, 1, 3, 1, 0, 1);
        r.converse(r.toOf(0, 2));
        Due.is("MATCH of both is 3", 3, r.node(0, 6));
    }

    private static void twoOthers() {
        Run r = Run.led();
        r.deliver(9);
        int accept = r.last();
        Due.is("one other", 0, r.deliver(accept));
        Due.is("COMMIT", 0, r.node(0, 6));
        r.deliver(accept);
        Due.is("the same one again", 0, r.node(0, 6));
        r.deliver(8);
        r.deliver(r.last());
        Due.is("two others", 1, r.node(0, 6));
        Due.is("it is applied", 0, r.sees(x -> x.result(0, 1)));
        Run q = new Run();
        q.lead(4, 0, 1);
        int first = q.toOf(4, 0);
        q.converse(first);
        Due.is("NODE 0 alone", 0, q.node(4, 6));
        q.converse(first + 1);
        Due.is("NODES 0 and 1", 1, q.node(4, 6));
    }

    /** MATCH of NODE 1 is 5 and that of NODE 2 grows. */
    private static void highestSuch() {
        Run r = Run.settled();
        int[] to = new int[6];
        for (int last = 2; last <= 5; last++) {
            r.propose(0, 1, last, last);
            r.beat(0);
            to[last] = r.toOf(0, 2);
        }
        r.converse(r.toOf(0, 1));
        Due.is("NODE 1 alone", 1, r.node(0, 6));
        for (int last = 2; last <= 5; last++) {
            r.deliver(to[last]);
            r.deliver(r.last());
            Due.is("what both have", last, r.node(0, 6));
            Due.is("REVISION", last, r.node(0, 8));
        }
        whoeverHasMore();
        Run q = Run.settled();
        for (int last = 2; last <= 5; last++) {
            q.propose(0, 1, last, last);
        }
        q.settle(0, 1);
        q.beat(0);
        q.deliver(q.toOf(0, 2));
        q.deliver(q.last());
        Due.is("four at once", 5, q.node(0, 6));
        Due.is("all are applied", 5, q.node(0, 8));
    }

    /** Of the NODES the one that is named first gets ENTRIES up to 4, the others up to 3 and 2: two have 3. */
    private static void whoeverHasMore() {
        int[][] orders = {{1, 2, 3}, {1, 3, 2}, {2, 1, 3}, {2, 3, 1}, {3, 1, 2}, {3, 2, 1}, {4, 3, 1}, {1, 4, 3}};
        for (int[] order : orders) {
            Run r = Run.led();
            int[] sent = new int[5];
            for (int last = 2; last <= 4; last++) {
                r.propose(0, 1, last, last);
                r.beat(0);
                int n = order[4 - last];
                sent[n] = r.toOf(0, n);
            }
            int[] due = {0, 3, 3};
            for (int i = 0; i < 3; i++) {
                Due.is("it has them", 1, r.deliver(sent[order[i]]));
                r.deliver(r.last());
                Due.is("COMMIT", due[i], r.node(0, 6));
            }
        }
    }

    /** Leader 1 of TERM 2 has ENTRIES 2 to 5 of TERM 1 and 6 of TERM 2. */
    private static void ownTerm() {
        Run r = Run.settled();
        for (int i = 0; i < 4; i++) {
            r.propose(0, 1, i, i);
        }
        r.settle(0, 1);
        r.lead(1, 2, 3);
        int first = r.toOf(1, 0);
        int[] rest = new int[4];
        for (int n = 2; n <= 3; n++) {
            r.deliver(first + n - 1); // a DENIAL
            r.deliver(r.last());
            r.deliver(r.last()); // four ENTRIES
            Due.is("what is left is sent", 1, r.deliver(r.last()));
            rest[n] = r.last();
        }
        r.isMessage(rest[2], Run.APPEND, 1, 2, 2, 5, 1, 1, 1);
        r.isMessage(rest[3], Run.APPEND, 1, 3, 2, 4, 1, 2, 1);
        Due.is("two have ENTRIES up to 4 of TERM 1", 1, r.node(1, 6));
        r.deliver(rest[2]);
        r.deliver(r.last());
        Due.is("one has ENTRY 6 of TERM 2", 1, r.node(1, 6));
        r.deliver(rest[3]);
        r.deliver(r.last());
        Due.is("two have it: all before it is COMMIT too", 6, r.node(1, 6));
        Due.is("KEYS", 4, r.node(1, 11));
    }

    private static void nextAroundLast() {
        Run r = Run.settled();
        r.propose(0, 7, 0, 0);
        r.beat(0);
        r.deliver(r.toOf(0, 1));
        int accept = r.last(); // INDEX 2
        Due.is("NEXT 3, LAST 2", 0, r.deliver(accept));
        r.propose(0, 7, 0, 0);
        Due.is("NEXT 3, LAST 3", 1, r.deliver(accept));
        r.isMessage(r.last(), Run.APPEND, 0, 1, 1, 2, 1, 1, 1);
        r.propose(0, 7, 0, 0);
        Due.is("NEXT 3, LAST 4", 1, r.deliver(accept));
        r.isMessage(r.last(), Run.APPEND, 0, 1, 1, 2, 1, 2, 1);
    }

    private static void onlyLeaders() {
        Run r = Run.led();
        r.deliver(6);
        r.deliver(7);
        int accept = r.last() - 1;
        r.restart(0); // follower of TERM 1
        Due.is("an ACCEPT", 0, r.deliver(accept));
        Due.is("an ACCEPT", 0, r.deliver(accept + 1));
        r.isNode(0, 1, 1, 0, FOLLOWER, 0, 1, 0, 1);
        Run q = Run.settled();
        q.lead(1, 2, 3);
        q.deliver(q.toOf(1, 4));
        int denial = q.last();
        q.isMessage(denial, Run.DENIAL, 4, 1, 2, 0);
        q.restart(1);
        Due.is("a DENIAL", 0, q.deliver(denial));
        q.isNode(1, 1, 2, 1, FOLLOWER, 0, 2, 0, 2);
    }

    private static void nextAroundIndex() {
        Run r = anotherHistory();
        r.deliver(r.toOf(2, 0)); // PREVIOUS 3, NEXT 4
        int two = r.last();
        r.isMessage(two, Run.DENIAL, 0, 2, 3, 2);
        Due.is("NEXT 4 is above 3", 1, r.deliver(two));
        r.isMessage(r.last(), Run.APPEND, 2, 0, 3, 2, 2, 2, 0);
        int append = r.last();
        Due.is("NEXT 3 is not above 3: it sends the same", 1, r.deliver(two));
        r.isMessage(r.last(), Run.APPEND, 2, 0, 3, 2, 2, 2, 0);
        r.deliver(append);
        int one = r.last();
        r.isMessage(one, Run.DENIAL, 0, 2, 3, 1);
        r.deliver(one);
        r.isMessage(r.last(), Run.APPEND, 2, 0, 3, 1, 2, 3, 0);
        Due.is("NEXT 2 is below 3: it stays", 1, r.deliver(two));
        r.isMessage(r.last(), Run.APPEND, 2, 0, 3, 1, 2, 3, 0);
    }

    private static void notLessThanMatch() {
        Run r = Run.settled();
        for (int i = 0; i < 5; i++) {
            r.propose(0, 7, 0, 0);
        }
        r.settle(0, 1, 2); // LAST 6
        r.lead(1, 2, 3);
        r.deliver(r.toOf(1, 4)); // PREVIOUS 6
        int denial = r.last();
        r.isMessage(denial, Run.DENIAL, 4, 1, 2, 0);
        r.deliver(denial);
        r.isMessage(r.last(), Run.APPEND, 1, 4, 2, 0, 0, 4, 1);
        r.deliver(r.last());
        r.deliver(r.last()); // MATCH 4, NEXT 5
        r.isMessage(r.last(), Run.APPEND, 1, 4, 2, 4, 1, 3, 1);
        Due.is("the DENIAL again", 1, r.deliver(denial));
        r.isMessage(r.last(), Run.APPEND, 1, 4, 2, 4, 1, 3, 1);
        r.converse(r.last()); // MATCH 7
        Due.is("and again: it sends, without ENTRIES", 1, r.deliver(denial));
        r.isMessage(r.last(), Run.APPEND, 1, 4, 2, 7, 2, 0, 1);
    }

    private static void denialBringsSnapshot() {
        Run r = Run.settled();
        r.run(1, 1, 1);
        r.settle(0, 1, 2);
        r.lead(1, 2, 0); // PREVIOUS 2 to all
        int first = r.toOf(1, 0);
        Due.is("BASE", 2, r.shrink(1));
        r.deliver(first + 2);
        r.isMessage(r.last(), Run.DENIAL, 3, 1, 2, 0);
        Due.is("NEXT less 1 is below BASE", 1, r.deliver(r.last()));
        r.isMessage(r.last(), Run.SNAPSHOT, 1, 3, 2, 2, 1);
        r.deliver(r.last());
        r.isNode(3, 1, 2, -1, FOLLOWER, 2, 2, 2, 1);
        Due.is("the rest follows", 1, r.deliver(r.last()));
        r.isMessage(r.last(), Run.APPEND, 1, 3, 2, 2, 1, 1, 2);
    }

    private static void candidateGetsSnapshot() {
        Run r = oneBehind();
        r.beat(0);
        int snapshot = r.toOf(0, 1);
        r.expire(1); // TERM 1
        r.isNode(1, 1, 1, 1, CANDIDATE);
        Due.is("taken", 1, r.deliver(snapshot));
        r.isNode(1, 1, 1, 1, FOLLOWER, 1, 1, 1, 1);
        Run q = matches();
        q.settle(0, 1, 2);
        q.shrink(0);
        q.beat(0);
        q.isMessage(q.toOf(0, 4), Run.SNAPSHOT, 0, 4, 1, 2, 1);
        int toFour = q.toOf(0, 4);
        q.deliver(toFour);
        q.crash(4);
        q.start(4);
        Due.is("not needed", 1, q.deliver(toFour));
        q.isNode(4, 1, 1, -1, FOLLOWER, 2, 2, 2, 1);
    }

    /**
     * NODE 3 has ENTRY 1; leader 0 sends it the SNAPSHOT at 3. Of what it sent before, the MESSAGES to NODE 3 with the
     * ENTRIES from 2 up to 2, 3 and 4 and that INDEX for COMMIT, but 3 for the last, are numbered here.
     */
    private static Run snapshotAtThree(int[] upTo) {
        Run r = matches();
        r.beat(0);
        upTo[2] = r.toOf(0, 3);
        r.isMessage(upTo[2], Run.APPEND, 0, 3, 1, 1, 1, 1, 2);
        r.propose(0, 1, 3, 3);
        r.settle(0, 1, 2);
        r.beat(0);
        upTo[3] = r.toOf(0, 3);
        r.isMessage(upTo[3], Run.APPEND, 0, 3, 1, 1, 1, 2, 3);
        r.propose(0, 1, 4, 4);
        r.beat(0);
        upTo[4] = r.toOf(0, 3);
        r.isMessage(upTo[4], Run.APPEND, 0, 3, 1, 1, 1, 3, 3);
        Due.is("BASE", 3, r.shrink(0));
        r.beat(0);
        r.isMessage(r.toOf(0, 3), Run.SNAPSHOT, 0, 3, 1, 3, 1);
        return r;
    }

    private static void commitAroundBase() {
        for (int commit = 2; commit <= 4; commit++) {
            int[] upTo = new int[5];
            Run r = snapshotAtThree(upTo);
            int snapshot = r.toOf(0, 3);
            if (commit == 4) {
                r.settle(0, 1, 2);
                r.deliver(upTo[4]);
                r.converse(r.last());
                r.settle(0, 3);
            } else {
                r.deliver(upTo[commit]);
            }
            int due = Math.max(commit, 3);
            Due.is("COMMIT", commit, r.node(3, 6));
            Due.is("RECORDS", commit == 2 ? 1 : 0, r.records(3, x -> x.deliver(snapshot)));
            Due.is("the SNAPSHOT", 1, r.deliver(snapshot));
            r.isMessage(r.last(), Run.ACCEPT, 3, 0, 1, due);
            r.isNode(3, 1, 1, -1, FOLLOWER, commit == 2 ? 3 : 0, due, due, 1);
            Due.is("REVISION", due, r.node(3, 8));
        }
    }

    private static void entriesBehindStay() {
        for (int last = 1; last <= 4; last++) {
            int[] upTo = new int[5];
            Run r = snapshotAtThree(upTo);
            int snapshot = r.toOf(0, 3);
            if (last > 1) {
                r.deliver(upTo[last]);
            }
            r.restart(3); // its COMMIT is 0 again
            r.isNode(3, 1, 1, -1, FOLLOWER, 0, last, 0, 1);
            Due.is("RECORDS", 1, r.records(3, x -> x.deliver(snapshot)));
            Due.is("the SNAPSHOT", 1, r.deliver(snapshot));
            r.isMessage(r.last(), Run.ACCEPT, 3, 0, 1, 3);
            for (int i = 0; i < 2; i++) {
                r.isNode(3, 1, 1, -1, FOLLOWER, 3, Math.max(3, last), 3, 1, 3, 0, 0, 2, 0, 2);
                Due.is("ENTRY 2", -1, r.entry(3, 2));
                Due.is("BASE", 1, r.entry(3, 3));
                Due.is("ENTRY 4", last == 4 ? 1 : -1, r.entry(3, 4));
                r.restart(3);
            }
        }
    }

    /** NODE 0 has ENTRIES up to 6 of TERM 1 as it gets the SNAPSHOT at 4, of TERM 3, whose ENTRIES 1 to 3 are of 2. */
    private static void elseAllGo() {
        Run r = anotherHistory();
        r.propose(0, 1, 9, 9);
        r.propose(0, 1, 9, 9);
        r.settle(2, 1, 3);
        Due.is("BASE", 4, r.shrink(2));
        r.beat(2);
        r.isMessage(r.toOf(2, 0), Run.SNAPSHOT, 2, 0, 3, 4, 3);
        Due.is("LAST", 6, r.node(0, 5));
        Due.is("the SNAPSHOT", 1, r.deliver(r.toOf(2, 0)));
        r.isMessage(r.last(), Run.ACCEPT, 0, 2, 3, 4);
        for (int i = 0; i < 2; i++) {
            r.isNode(0, 1, 3, -1, FOLLOWER, 4, 4, 4, 3, 3, 0, 0, 2, 0, 2);
            for (int index = 0; index <= 7; index++) {
                Due.is("entry " + index, index == 4 ? 3 : -1, r.entry(0, index));
            }
            Due.is("STORE", r.digest(2), r.digest(0));
            r.restart(0);
        }
    }

    /** What only later calls show of a STORE goes with it, too: ENDS of LEASES, whose KEYS are, VALUES at COMPACTED. */
    private static void allOfTheStore() {
        Run r = Run.settled();
        r.command(4, 1, 2);
        r.command(4, 8, 3);
        r.command(1, 0, 5, 1, 0, 0, 0); // REVISION 2
        r.command(1, 63, 6, 8, 0, 0, 0); // 3
        r.command(1, 9, 9); // 4
        r.command(2, 9, 9); // 5
        r.command(1, 0, 7, 8, 0, 0, 0); // 6
        r.command(8, 5, 0);
        r.settle(0, 1, 2);
        r.shrink(0);
        r.beat(0);
        r.converse(r.toOf(0, 4));
        r.restart(0);
        for (int n = 0; n < 5; n += 4) {
            int node = n;
            r.isStore(n, 6, 0, 5, 2, 0x81, 1);
            Due.is("VALUE at COMPACTED", 5, r.sees(x -> x.past(node, 0, 5)));
            Due.is("VALUE at COMPACTED", 6, r.sees(x -> x.past(node, 63, 5)));
            Due.is("VALUE since", 7, r.sees(x -> x.past(node, 0, 6)));
            r.refuses("not there at COMPACTED", ELEMENT, x -> x.past(node, 9, 5));
            Due.is("LEASE", 8, r.sees(x -> x.key(node, 0, 4)));
            Due.is("LEASE", 8, r.sees(x -> x.key(node, 63, 4)));
        }
        r.lead(4, 0, 1);
        for (int tick = 1; tick <= 3; tick++) {
            r.propose(4, 7, 0, 0);
            r.settle(4, 0, 1);
            r.settle(4, 0);
            for (int n = 0; n < 5; n += 4) {
                r.isStore(n, tick == 3 ? 7 : 6, tick, 5, tick == 3 ? 0 : 2, new int[] {0x81, 0x80, 0}[tick - 1],
                        tick == 3 ? 3 : 1);
            }
        }
    }

    private static void resultsSinceSnapshot() {
        int[] upTo = new int[5];
        Run r = snapshotAtThree(upTo);
        int snapshot = r.toOf(0, 3);
        r.deliver(upTo[2]);
        Due.is("applied", 0, r.sees(x -> x.result(3, 1)));
        Due.is("applied", 2, r.sees(x -> x.result(3, 2)));
        r.refuses("not applied", ELEMENT, x -> x.result(3, 3));
        r.deliver(snapshot);
        for (int i = 0; i <= 4; i++) {
            int index = i;
            r.refuses("not since the SNAPSHOT", ELEMENT, x -> x.result(3, index));
        }
        r.settle(0, 1, 2, 3);
        r.settle(0, 3);
        r.refuses("in the SNAPSHOT", ELEMENT, x -> x.result(3, 3));
        Due.is("applied since", 4, r.sees(x -> x.result(3, 4)));
        r.refuses("not applied", ELEMENT, x -> x.result(3, 5));
    }
}
