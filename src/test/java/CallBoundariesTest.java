import java.util.NoSuchElementException;

/**
 * 'The public face' and the promises, sentence by sentence: for each call the last number that is allowed and the first
 * that is not, which of several exceptions is thrown, and that a refused call changes nothing.
 */
public final class CallBoundariesTest {
    private static final Class<IndexOutOfBoundsException> INDEX = IndexOutOfBoundsException.class;
    private static final Class<IllegalStateException> STATE = IllegalStateException.class;
    private static final Class<IllegalArgumentException> ARGUMENT = IllegalArgumentException.class;
    private static final Class<NoSuchElementException> ELEMENT = NoSuchElementException.class;
    private static final int MIN = Integer.MIN_VALUE;
    private static final int MAX = Integer.MAX_VALUE;
    private static final int[] NO_NODES = {-1, 5, MIN, MAX};
    private static final int[] NO_KEYS = {-1, 64, MIN, MAX};
    private static final int[] NO_LEASES = {0, 9, -1, MIN, MAX};
    private static final int CANDIDATE = 1;
    private static final int LEADER = 2;

    public static void main(String[] args) {
        first();
        moving();
        proposing();
        ups();
        looking();
        pasts();
        events();
        insides();
        Due.end();
    }

    private static void first() {
        Due.sentence("RaftRegistry(): TERMS 0, all empty, all up", CallBoundariesTest::newObject);
        Due.sentence("IndexOutOfBoundsException if there is no NODE n", CallBoundariesTest::noNodeOfANewObject);
        Due.sentence("IndexOutOfBoundsException if there is no NODE n: before all others",
                CallBoundariesTest::noNodeComesFirst);
        Due.sentence("NODES 0 to 4", CallBoundariesTest::firstAndLastNode);
        Due.sentence("IllegalStateException if it is down", CallBoundariesTest::down);
    }

    private static void moving() {
        Due.sentence("NODE n, that is no leader: TERM one more", CallBoundariesTest::expireOfAnyButLeaders);
        Due.sentence("IllegalStateException if it is down or leader", CallBoundariesTest::expireRefuses);
        Due.sentence("IndexOutOfBoundsException if there is no MESSAGE m", CallBoundariesTest::noMessage);
        Due.sentence("The numbers c to f of the next COMMAND (0 at first", CallBoundariesTest::moreAtFirst);
        Due.sentence("they stay", CallBoundariesTest::moreStays);
        Due.sentence("Leader n sends to all: how many MESSAGES came. Thrown as by propose",
                CallBoundariesTest::beatRefuses);
    }

    private static void proposing() {
        Due.sentence("IllegalArgumentException if kind is not 1 to 8", CallBoundariesTest::kinds);
        Due.sentence("a is no KEY for 1 to 3", CallBoundariesTest::keysA);
        Due.sentence("(b for 2, e for 3 too)", CallBoundariesTest::keysBAndE);
        Due.sentence("no LEASE for 4 to 6", CallBoundariesTest::leasesA);
        Due.sentence("c not 0 to 8 for 1", CallBoundariesTest::leaseC);
        Due.sentence("b not 0 to 3 or c not 0 to 2 for 3", CallBoundariesTest::comparisonBAndC);
        Due.sentence("kind is not 1 to 8, or: others are not looked at", CallBoundariesTest::othersAreFree);
        Due.sentence("IllegalStateException if n is down or no leader", CallBoundariesTest::proposeToWhoLeadsNot);
        Due.sentence("the one that its words name first is thrown: propose", CallBoundariesTest::proposeOrder);
    }

    private static void ups() {
        Due.sentence("NODE n is down. Thrown as by shrink (of the down)", CallBoundariesTest::crashRefuses);
        Due.sentence("IllegalStateException if it is up", CallBoundariesTest::startRefuses);
        Due.sentence("the one that its words name first is thrown: power", CallBoundariesTest::powerOrder);
        Due.sentence("NoSuchElementException if it .. did not apply it", CallBoundariesTest::resultsAroundCommit);
    }

    private static void looking() {
        Due.sentence("what 0: VERSION .. 4: LEASE; .. IllegalArgumentException for others",
                CallBoundariesTest::whatOfAKey);
        Due.sentence("IndexOutOfBoundsException if there is no NODE n or no KEY k", CallBoundariesTest::noKey);
        Due.sentence("the one that its words name first is thrown: key", CallBoundariesTest::keyOrder);
        Due.sentence("digest: Thrown as by key", CallBoundariesTest::digestRefuses);
        Due.sentence("from 7 on .. then times 31 and REVISION", CallBoundariesTest::digests);
    }

    private static void pasts() {
        Due.sentence("IllegalArgumentException if r is below COMPACTED", CallBoundariesTest::pastAroundCompacted);
        Due.sentence("or above REVISION", CallBoundariesTest::pastAroundRevision);
        Due.sentence("NoSuchElementException if it was not there", CallBoundariesTest::pastOfWhatWasNotThere);
        Due.sentence("the one that its words name first is thrown: past", CallBoundariesTest::pastOrder);
    }

    private static void events() {
        Due.sentence("The i-th EVENT (from 0)", CallBoundariesTest::firstAndLastEvent);
        Due.sentence("of a REVISION not below r", CallBoundariesTest::eventsAroundR);
        Due.sentence("its VALUE without sign", CallBoundariesTest::valuesWithoutSign);
        Due.sentence("IllegalArgumentException if r is not above COMPACTED", CallBoundariesTest::eventAboveCompacted);
        Due.sentence("(event: the i-th one is looked for last.)", CallBoundariesTest::eventOrder);
    }

    private static void insides() {
        Due.sentence("Of MESSAGE m what 0 .. 7: COMMIT", CallBoundariesTest::whatOfAMessage);
        Due.sentence("message: IllegalArgumentException for others", CallBoundariesTest::messageRefuses);
        Due.sentence("Of NODE n what 0 .. 13: EVENTS", CallBoundariesTest::whatOfANode);
        Due.sentence("node: IllegalArgumentException for others", CallBoundariesTest::nodeRefuses);
        Due.sentence("How many MESSAGES there are", CallBoundariesTest::countOfMessages);
        Due.sentence("How much was ever wrong: .. always 0", CallBoundariesTest::nothingWrong);
    }

    /** Every call that has an n, the other numbers being these. */
    private static Run.Call[] callsOf(int n, int b, int c, int d) {
        return new Run.Call[] {
            x -> x.expire(n),
            x -> x.propose(n, b, c, d),
            x -> x.beat(n),
            x -> x.shrink(n),
            x -> {
                x.crash(n);
                return 0;
            },
            x -> x.start(n),
            x -> {
                x.power(n, b);
                return 0;
            },
            x -> x.result(n, b),
            x -> x.key(n, b, c),
            x -> x.past(n, b, c),
            x -> x.event(n, b, c),
            x -> x.node(n, b),
            x -> x.entry(n, b),
            x -> x.digest(n),
        };
    }

    private static void newObject() {
        Run r = new Run();
        for (int n = 0; n < 5; n++) {
            r.isNode(n, 1, 0, -1, 0, 0, 0, 0, 0, 1, 0, 0, 0, 0, 0);
            int node = n;
            Due.is("entry", 0, r.entry(n, 0));
            Due.is("entry", -1, r.entry(n, 1));
            Due.is("digest", 7 * 31 + 1, r.digest(n));
            r.refuses("no RESULT", ELEMENT, x -> x.result(node, 0));
            r.refuses("no RESULT", ELEMENT, x -> x.result(node, 1));
            r.refuses("no EVENT", INDEX, x -> x.event(node, 1, 0));
            r.refuses("no KEY", ELEMENT, x -> x.past(node, 0, 1));
        }
        Due.is("messages", 0, r.messages());
        Due.is("check", 0, r.sees(RaftRegistry::check));
    }

    private static void noNodeOfANewObject() {
        Run r = new Run();
        for (int n : NO_NODES) {
            for (Run.Call c : callsOf(n, 1, 1, 1)) {
                r.refuses("NODE " + n, INDEX, c);
            }
        }
    }

    private static void noNodeComesFirst() {
        Run r = Run.settled();
        r.crash(4);
        r.more(-1, -1, -1, -1);
        for (int n = 0; n < 5; n++) {
            r.power(n, 1);
        }
        for (int n : NO_NODES) {
            for (Run.Call c : callsOf(n, 101, 99, -9)) {
                r.refuses("NODE " + n, INDEX, c);
            }
            for (Run.Call c : callsOf(n, -2, -2, -2)) {
                r.refuses("NODE " + n, INDEX, c);
            }
        }
    }

    private static void firstAndLastNode() {
        for (int n = 0; n < 5; n += 4) {
            Run r = new Run();
            int follower = 4 - n;
            int node = n;
            r.lead(n, 1, follower);
            r.isNode(n, 1, 1, n, LEADER);
            Due.is("propose", 2, r.propose(n, 1, 0, 5));
            r.settle(n, 1, follower);
            Due.is("result", 2, r.sees(x -> x.result(node, 2)));
            Due.is("key", 5, r.sees(x -> x.key(node, 0, 3)));
            Due.is("past", 5, r.sees(x -> x.past(node, 0, 2)));
            Due.is("event", (2L << 38) + 5, r.sees(x -> x.event(node, 1, 0)));
            Due.is("shrink", 2, r.shrink(n));
            Due.is("entry", 1, r.entry(n, 2));
            r.power(n, 0);
            Due.is("propose", 0, r.propose(n, 1, 0, 5));
            Due.is("start", 2, r.start(n));
            r.crash(n);
            r.crash(follower);
            Due.is("start", 2, r.start(follower));
        }
    }

    private static void down() {
        Run r = Run.settled();
        r.run(1, 1, 1);
        r.settle(0, 1, 2);
        for (int n = 0; n < 2; n++) {
            int node = n;
            r.crash(n);
            r.power(n, 1);
            r.refuses("expire", STATE, x -> x.expire(node));
            r.refuses("propose", STATE, x -> x.propose(node, 7, 0, 0));
            r.refuses("beat", STATE, x -> x.beat(node));
            r.refuses("shrink", STATE, x -> x.shrink(node));
            r.refuses("crash", STATE, x -> {
                x.crash(node);
                return 0;
            });
            r.refuses("key", STATE, x -> x.key(node, 1, 0));
            r.refuses("past", STATE, x -> x.past(node, 1, 2));
            r.refuses("event", STATE, x -> x.event(node, 1, 0));
            r.refuses("digest", STATE, x -> x.digest(node));
            r.refuses("result", ELEMENT, x -> x.result(node, 1));
            Due.is("node", 0, r.node(n, 0));
            Due.is("entry", 1, r.entry(n, 1));
            r.power(n, -1);
            Due.is("start", 2, r.start(n));
        }
    }

    private static void expireOfAnyButLeaders() {
        Run r = new Run();
        Due.is("a follower", 4, r.expire(1));
        r.isNode(1, 1, 1, 1, CANDIDATE);
        Due.is("a candidate", 4, r.expire(1));
        r.isNode(1, 1, 2, 1, CANDIDATE);
        r.isMessage(r.last(), Run.ASK, 1, 4, 2);
        r.deliver(r.last());
        r.deliver(r.toOf(1, 3));
        r.restart(1);
        Due.is("who is up again", 4, r.expire(1));
        r.isNode(1, 1, 3, 1, CANDIDATE);
        Run q = Run.settled();
        q.expire(4);
        q.expire(4);
        q.deliver(q.toOf(4, 0)); // NODE 0 leads no longer
        Due.is("who was leader", 4, q.expire(0));
        q.isNode(0, 1, 3, 0, CANDIDATE);
        q.isMessage(q.last(), Run.ASK, 0, 4, 3, 1, 1);
    }

    private static void expireRefuses() {
        Run r = Run.led();
        r.power(0, 1);
        r.refuses("leader", STATE, x -> x.expire(0));
        r.crash(0);
        r.power(0, 1);
        r.refuses("down", STATE, x -> x.expire(0));
        r.start(0);
        Due.is("up again", 4, r.expire(0));
        r.crash(1);
        r.refuses("down", STATE, x -> x.expire(1));
    }

    private static void noMessage() {
        Run r = new Run();
        for (int m : new int[] {0, -1, MIN, MAX}) {
            r.refuses("deliver(" + m + ")", INDEX, x -> x.deliver(m));
            r.refuses("message(" + m + ", 0)", INDEX, x -> x.message(m, 0));
            r.refuses("message(" + m + ", 8)", INDEX, x -> x.message(m, 8));
        }
        r.expire(0);
        Due.is("the first", 1, r.deliver(0));
        Due.is("the last", 1, r.deliver(4 - 1));
        r.isMessage(0, Run.ASK, 0, 1, 1);
        r.isMessage(5, Run.VOTE, 4, 0, 1, 1);
        for (int m : new int[] {6, -1, 3000, MIN, MAX}) {
            r.refuses("deliver(" + m + ")", INDEX, x -> x.deliver(m));
            r.refuses("message(" + m + ", 0)", INDEX, x -> x.message(m, 0));
            r.refuses("message(" + m + ", -1)", INDEX, x -> x.message(m, -1));
        }
        r.crash(0);
        Due.is("the last, to who is down", 0, r.deliver(5));
    }

    private static void moreAtFirst() {
        Run r = Run.settled();
        r.propose(0, 1, 5, 50); // c is 0: no LEASE
        r.propose(0, 3, 9, 3); // VALUE of KEY 9 is 0: KEY 0 is put with 0
        r.settle(0, 1, 2);
        r.isKey(5, 1, 2, 2, 50);
        r.isKey(0, 1, 3, 3, 0);
    }

    private static void moreStays() {
        Run r = Run.settled();
        r.more(2, -1, 63, MIN);
        r.propose(0, 3, 9, 3); // 0 is above -1
        r.refuses("a refused COMMAND leaves them", ARGUMENT, x -> x.propose(0, 3, 64, 3));
        r.propose(0, 7, 0, 0);
        r.propose(0, 3, 9, 3);
        r.settle(0, 1, 2);
        r.isKey(63, 2, 2, 3, MIN);
        r.more(MIN, MAX, -1, 64);
        Due.is("any number where it is not used", 5, r.propose(0, 2, 0, 0));
        r.more(0, 0, 0, 0);
        r.more(1, 1, 8, MAX); // the last ones count
        r.propose(0, 3, 9, 3); // 0 is below 1
        r.settle(0, 1, 2);
        r.isKey(8, 1, 4, 4, MAX);
        r.restart(0);
        r.lead(0, 1, 2);
        r.propose(0, 3, 9, 3);
        r.settle(0, 1, 2);
        Due.is("they are of no NODE", 2, r.sees(x -> x.key(0, 8, 0)));
    }

    private static void beatRefuses() {
        Run r = Run.led();
        Due.is("a leader", 4, r.beat(0));
        r.power(1, 1);
        r.refuses("a follower", STATE, x -> x.beat(1));
        r.expire(2);
        r.refuses("a candidate", STATE, x -> x.beat(2));
        r.crash(0);
        r.refuses("down", STATE, x -> x.beat(0));
        r.start(0);
        r.refuses("up again", STATE, x -> x.beat(0));
    }

    private static void kinds() {
        Run r = Run.settled();
        for (int kind : new int[] {0, 9, -1, MIN, MAX}) {
            r.refuses("kind " + kind, ARGUMENT, x -> x.propose(0, kind, 1, 1));
        }
        for (int kind = 1; kind <= 8; kind++) {
            Due.is("kind " + kind, 1 + kind, r.propose(0, kind, 1, 1));
        }
    }

    private static void keysA() {
        Run r = Run.settled();
        for (int kind = 1; kind <= 3; kind++) {
            int k = kind;
            for (int key : NO_KEYS) {
                r.refuses("KEY " + key, ARGUMENT, x -> x.propose(0, k, key, 1));
            }
            Due.is("KEY 0", 2 * kind, r.propose(0, k, 0, 1));
            Due.is("KEY 63", 2 * kind + 1, r.propose(0, k, 63, 1));
        }
    }

    private static void keysBAndE() {
        Run r = Run.settled();
        for (int key : NO_KEYS) {
            r.refuses("b for 2", ARGUMENT, x -> x.propose(0, 2, 0, key));
            r.more(0, 0, key, 0);
            r.refuses("e for 3", ARGUMENT, x -> x.propose(0, 3, 0, 0));
        }
        Due.is("b for 2", 2, r.propose(0, 2, 0, 0));
        Due.is("b for 2", 3, r.propose(0, 2, 0, 63));
        r.more(0, 0, 63, 0);
        Due.is("e for 3", 4, r.propose(0, 3, 0, 0));
        r.more(0, 0, 0, 0);
        Due.is("e for 3", 5, r.propose(0, 3, 0, 0));
    }

    private static void leasesA() {
        Run r = Run.settled();
        for (int kind = 4; kind <= 6; kind++) {
            int k = kind;
            for (int lease : NO_LEASES) {
                r.refuses("LEASE " + lease, ARGUMENT, x -> x.propose(0, k, lease, 1));
            }
            Due.is("LEASE 1", 2 * kind - 6, r.propose(0, k, 1, 1));
            Due.is("LEASE 8", 2 * kind - 5, r.propose(0, k, 8, 1));
        }
    }

    private static void leaseC() {
        Run r = Run.settled();
        for (int c : new int[] {-1, 9, MIN, MAX}) {
            r.more(c, 0, 0, 0);
            r.refuses("c is " + c, ARGUMENT, x -> x.propose(0, 1, 0, 0));
        }
        for (int c : new int[] {0, 1, 8}) {
            r.more(c, 0, 0, 0);
            Due.is("c is " + c, c == 8 ? 4 : 2 + c, r.propose(0, 1, 0, 0));
        }
    }

    private static void comparisonBAndC() {
        Run r = Run.settled();
        for (int b : new int[] {-1, 4, MIN, MAX}) {
            r.refuses("b is " + b, ARGUMENT, x -> x.propose(0, 3, 0, b));
        }
        for (int c : new int[] {-1, 3, 8, MIN, MAX}) {
            r.more(c, 0, 0, 0);
            r.refuses("c is " + c, ARGUMENT, x -> x.propose(0, 3, 0, 0));
        }
        r.more(0, 0, 0, 0);
        Due.is("b and c are 0", 2, r.propose(0, 3, 0, 0));
        r.more(2, 0, 0, 0);
        Due.is("b is 3, c is 2", 3, r.propose(0, 3, 0, 3));
    }

    private static void othersAreFree() {
        Run r = Run.settled();
        int index = 2;
        r.more(8, MIN, MAX, -1);
        Due.is("put", index++, r.propose(0, 1, 0, MIN));
        r.more(MIN, MAX, -1, 64);
        Due.is("remove", index++, r.propose(0, 2, 63, 0));
        for (int kind = 4; kind <= 6; kind++) {
            Due.is("kind " + kind, index++, r.propose(0, kind, 1, MIN));
            Due.is("kind " + kind, index++, r.propose(0, kind, 8, MAX));
        }
        for (int kind = 7; kind <= 8; kind++) {
            Due.is("kind " + kind, index++, r.propose(0, kind, MIN, MAX));
            Due.is("kind " + kind, index++, r.propose(0, kind, MAX, MIN));
        }
        r.more(2, MIN, 63, MAX);
        Due.is("compare", index, r.propose(0, 3, 63, 3));
    }

    private static void proposeToWhoLeadsNot() {
        Run r = Run.settled();
        r.refuses("a follower", STATE, x -> x.propose(1, 7, 0, 0));
        r.expire(3);
        r.refuses("a candidate", STATE, x -> x.propose(3, 7, 0, 0));
        Due.is("the leader", 2, r.propose(0, 7, 0, 0));
        r.crash(0);
        r.refuses("down", STATE, x -> x.propose(0, 7, 0, 0));
        r.start(0);
        r.refuses("it led", STATE, x -> x.propose(0, 7, 0, 0));
    }

    private static void proposeOrder() {
        Run r = Run.settled();
        r.crash(4);
        r.more(9, 0, 64, 0);
        for (int n : new int[] {1, 4}) {
            r.power(n, 1);
            r.refuses("kind", ARGUMENT, x -> x.propose(n, 9, 0, 0));
            r.refuses("KEY a", ARGUMENT, x -> x.propose(n, 2, 64, 0));
            r.refuses("KEY b", ARGUMENT, x -> x.propose(n, 2, 0, 64));
            r.refuses("KEY e", ARGUMENT, x -> x.propose(n, 3, 0, 0));
            r.refuses("LEASE", ARGUMENT, x -> x.propose(n, 4, 9, 0));
            r.refuses("c", ARGUMENT, x -> x.propose(n, 1, 0, 0));
            r.refuses("none of these", STATE, x -> x.propose(n, 7, 0, 0));
        }
        r.refuses("no NODE", INDEX, x -> x.propose(5, 9, 64, 64));
    }

    private static void crashRefuses() {
        Run r = new Run();
        r.crash(2);
        r.isNode(2, 0, 0, -1, 0, 0, 0, 0, 0, 0, 0, 0, 0, 0, 0);
        r.refuses("down", STATE, x -> {
            x.crash(2);
            return 0;
        });
        r.start(2);
        r.crash(2);
    }

    private static void startRefuses() {
        Run r = Run.settled();
        for (int n = 0; n < 5; n++) {
            int node = n;
            r.power(n, 1);
            r.refuses("up", STATE, x -> x.start(node));
        }
        r.crash(0);
        Due.is("down", 1, r.start(0));
        r.refuses("up again", STATE, x -> x.start(0));
    }

    private static void powerOrder() {
        Run r = new Run();
        r.crash(1);
        for (int k : new int[] {-2, 101}) {
            r.refuses("down, and k", ARGUMENT, x -> {
                x.power(1, k);
                return 0;
            });
            r.refuses("no NODE, and k", INDEX, x -> {
                x.power(5, k);
                return 0;
            });
        }
        r.power(1, 100);
        r.power(1, -1);
    }

    private static void resultsAroundCommit() {
        Run r = Run.settled();
        r.run(1, 0, 5);
        r.propose(0, 1, 0, 6);
        Due.is("INDEX 1", 0, r.sees(x -> x.result(0, 1)));
        Due.is("COMMIT", 2, r.sees(x -> x.result(0, 2)));
        for (int index : new int[] {0, 3, 4, -1, 1200, 1201, MIN, MAX}) {
            r.refuses("INDEX " + index, ELEMENT, x -> x.result(0, index));
        }
        r.refuses("a follower that knows of no COMMIT 2", ELEMENT, x -> x.result(1, 2));
        r.refuses("a follower without ENTRIES", ELEMENT, x -> x.result(4, 1));
    }

    private static void whatOfAKey() {
        Run r = Run.settled();
        r.run(4, 6, 9);
        r.put(63, 0, 0);
        r.put(9, 8, 0);
        r.put(9, -7, 6);
        r.isKey(9, 2, 3, 4, -7, 6);
        for (int what : new int[] {-1, 5, MIN, MAX}) {
            r.refuses("what " + what, ARGUMENT, x -> x.key(0, 9, what));
            r.refuses("what " + what + ", of what is not there", ARGUMENT, x -> x.key(0, 10, what));
        }
        r.isKey(10);
    }

    private static void noKey() {
        Run r = Run.settled();
        r.put(0, 1, 0);
        r.put(63, 1, 0);
        for (int key : NO_KEYS) {
            r.refuses("KEY " + key, INDEX, x -> x.key(0, key, 0));
            r.refuses("KEY " + key, INDEX, x -> x.past(0, key, 2));
        }
        r.isKey(0, 1, 2, 2, 1);
        r.isKey(63, 1, 3, 3, 1);
    }

    private static void keyOrder() {
        Run r = Run.settled();
        for (int key : NO_KEYS) {
            r.refuses("no KEY, and what", INDEX, x -> x.key(0, key, 5));
        }
        r.crash(0);
        r.refuses("down, and what", STATE, x -> x.key(0, 0, 5));
        r.refuses("no KEY, down, and what", INDEX, x -> x.key(0, 64, 5));
        r.refuses("no KEY, and down", INDEX, x -> x.key(0, -1, 0));
        r.refuses("no NODE, and what", INDEX, x -> x.key(5, 0, 5));
    }

    private static void digestRefuses() {
        Run r = new Run();
        r.crash(4);
        r.refuses("down", STATE, x -> x.digest(4));
        for (int n : NO_NODES) {
            r.refuses("no NODE", INDEX, x -> x.digest(n));
        }
        Due.is("up", 218, r.digest(3));
    }

    private static void digests() {
        Run r = Run.settled();
        Due.is("empty", 218, r.digest(0));
        r.run(4, 8, 9);
        r.put(63, MIN, 8);
        r.put(0, -1, 0);
        r.put(0, MAX, 0);
        r.run(2, 0, 0);
        r.put(0, 0, 0);
        long[] parts = {0, 0, 1, 6, 6, 0, 63, MIN, 1, 2, 2, 8,
            (2L << 38) + (63L << 32) + 0x80000000L, (3L << 38) + 0xFFFFFFFFL, (4L << 38) + 0x7FFFFFFFL,
            -1 - 64 * 5, 6L << 38, 6};
        long due = 7;
        for (long part : parts) {
            due = due * 31 + part;
        }
        Due.is("digest", due, r.digest(0));
        r.run(8, 6, 0);
        due = 7;
        for (int i = 0; i < 12; i++) {
            due = due * 31 + parts[i];
        }
        Due.is("without EVENTS", due * 31 + 6, r.digest(0));
        r.run(2, 0, 63);
        due = 7 * 31 + -1 - 64 * 7;
        due = due * 31 + (-1 - (64 * 7 + 63));
        Due.is("without KEYS", due * 31 + 7, r.digest(0));
    }

    private static void pastAroundCompacted() {
        Run r = Run.settled();
        r.refuses("COMPACTED 0", ELEMENT, x -> x.past(0, 1, 0));
        r.refuses("-1", ARGUMENT, x -> x.past(0, 1, -1));
        r.refuses("the least", ARGUMENT, x -> x.past(0, 1, MIN));
        for (int v = 1; v <= 4; v++) {
            r.put(1, v * 10, 0); // REVISIONS 2 to 5
        }
        r.run(8, 4, 0);
        r.refuses("COMPACTED - 1", ARGUMENT, x -> x.past(0, 1, 3));
        Due.is("COMPACTED", 30, r.sees(x -> x.past(0, 1, 4)));
        Due.is("COMPACTED + 1", 40, r.sees(x -> x.past(0, 1, 5)));
        r.refuses("0", ARGUMENT, x -> x.past(0, 1, 0));
    }

    private static void pastAroundRevision() {
        Run r = Run.settled();
        r.refuses("REVISION 1", ELEMENT, x -> x.past(0, 1, 1));
        r.refuses("REVISION 2", ARGUMENT, x -> x.past(0, 1, 2));
        r.put(1, 10, 0);
        r.put(2, 20, 0);
        Due.is("REVISION - 1", 10, r.sees(x -> x.past(0, 1, 2)));
        Due.is("REVISION", 10, r.sees(x -> x.past(0, 1, 3)));
        r.refuses("REVISION + 1", ARGUMENT, x -> x.past(0, 1, 4));
        r.refuses("the greatest", ARGUMENT, x -> x.past(0, 1, MAX));
    }

    private static void pastOfWhatWasNotThere() {
        Run r = Run.settled();
        r.put(1, 0, 0); // 2
        r.put(2, 5, 0); // 3
        r.run(2, 1, 1); // 4
        r.put(1, 7, 0); // 5
        r.refuses("not yet", ELEMENT, x -> x.past(0, 1, 1));
        Due.is("VALUE 0 is one", 0, r.sees(x -> x.past(0, 1, 2)));
        Due.is("as another KEY came", 0, r.sees(x -> x.past(0, 1, 3)));
        r.refuses("removed", ELEMENT, x -> x.past(0, 1, 4));
        Due.is("again", 7, r.sees(x -> x.past(0, 1, 5)));
        r.refuses("not yet", ELEMENT, x -> x.past(0, 2, 2));
        r.refuses("never", ELEMENT, x -> x.past(0, 3, 5));
    }

    private static void pastOrder() {
        Run r = Run.settled();
        r.put(1, 1, 0);
        for (int key : NO_KEYS) {
            r.refuses("no KEY, and r", INDEX, x -> x.past(0, key, -1));
        }
        r.refuses("r, and it was not there", ARGUMENT, x -> x.past(0, 9, 3));
        r.refuses("r, and it was not there", ARGUMENT, x -> x.past(0, 9, -1));
        r.crash(0);
        r.refuses("down, and r", STATE, x -> x.past(0, 1, -1));
        r.refuses("down, and it was not there", STATE, x -> x.past(0, 9, 1));
        r.refuses("no KEY, down, and r", INDEX, x -> x.past(0, 64, -1));
        r.refuses("no NODE, no KEY, and r", INDEX, x -> x.past(-1, 64, -1));
    }

    private static void firstAndLastEvent() {
        Run r = Run.settled();
        r.refuses("there is none", INDEX, x -> x.event(0, 1, 0));
        r.put(4, 40, 0);
        r.put(5, 50, 0);
        r.put(6, 60, 0);
        r.isPut(1, 0, 2, 4, 40);
        r.isPut(1, 2, 4, 6, 60);
        for (int i : new int[] {3, -1, MIN, MAX}) {
            r.refuses("i is " + i, INDEX, x -> x.event(0, 1, i));
        }
        for (int i : new int[] {1, -1, MAX, MIN}) {
            r.refuses("from the last on, i is " + i, INDEX, x -> x.event(0, 4, i));
        }
        r.refuses("without ENTRIES", INDEX, x -> x.event(4, 1, 0));
    }

    private static void eventsAroundR() {
        Run r = Run.settled();
        r.put(4, 40, 0); // 2
        r.put(5, 50, 0); // 3
        r.run(2, 0, 63); // 4, two EVENTS
        r.isPut(1, 0, 2, 4, 40);
        r.isPut(2, 0, 2, 4, 40);
        r.isPut(3, 0, 3, 5, 50);
        r.isRemoved(3, 2, 4, 5);
        r.isRemoved(4, 0, 4, 4);
        r.isRemoved(4, 1, 4, 5);
        r.refuses("REVISION + 1", INDEX, x -> x.event(0, 5, 0));
        r.refuses("the greatest", INDEX, x -> x.event(0, MAX, 0));
    }

    private static void valuesWithoutSign() {
        Run r = Run.settled();
        int[] values = {0, 1, -1, MIN, MAX};
        long[] due = {0, 1, 0xFFFFFFFFL, 0x80000000L, 0x7FFFFFFFL};
        for (int i = 0; i < values.length; i++) {
            r.put(63, values[i], 0);
            int at = i;
            Due.is("event", (1L << 38) * (2 + i) + (63L << 32) + due[i], r.sees(x -> x.event(0, 1, at)));
        }
        r.run(2, 63, 63);
        Due.is("removed", -1 - (64 * 7 + 63), r.sees(x -> x.event(0, 7, 0)));
    }

    private static void eventAboveCompacted() {
        Run r = Run.settled();
        r.put(1, 1, 0);
        r.put(1, 2, 0);
        r.put(1, 3, 0);
        for (int bad : new int[] {0, -1, MIN}) {
            r.refuses("r is " + bad, ARGUMENT, x -> x.event(0, bad, 0));
        }
        r.isPut(1, 0, 2, 1, 1);
        r.run(8, 3, 0);
        r.refuses("COMPACTED", ARGUMENT, x -> x.event(0, 3, 0));
        r.refuses("COMPACTED - 1", ARGUMENT, x -> x.event(0, 2, 0));
        r.isPut(4, 0, 4, 1, 3);
        r.run(8, 4, 0);
        r.refuses("COMPACTED", ARGUMENT, x -> x.event(0, 4, 0));
        r.refuses("COMPACTED + 1, but no EVENT", INDEX, x -> x.event(0, 5, 0));
    }

    private static void eventOrder() {
        Run r = Run.settled();
        r.put(1, 1, 0);
        r.refuses("r, and no such EVENT", ARGUMENT, x -> x.event(0, 0, 9));
        r.refuses("r, and no such EVENT", ARGUMENT, x -> x.event(0, 0, -1));
        r.crash(0);
        r.refuses("down, and no such EVENT", STATE, x -> x.event(0, 1, 9));
        r.refuses("down, r, and no such EVENT", STATE, x -> x.event(0, 0, -1));
        r.refuses("no NODE, r, and no such EVENT", INDEX, x -> x.event(5, 0, -1));
    }

    private static void whatOfAMessage() {
        Run r = Run.settled();
        r.isMessage(0, Run.ASK, 0, 1, 1, 0, 0, 0, 0);
        r.isMessage(4, Run.VOTE, 1, 0, 1, 1, 0, 0, 0);
        r.isMessage(9, Run.APPEND, 0, 4, 1, 0, 0, 1, 0);
        r.isMessage(10, Run.ACCEPT, 1, 0, 1, 1, 0, 0, 0);
        r.run(1, 1, 1);
        r.settle(0, 1, 2);
        r.shrink(0);
        r.beat(0);
        r.isMessage(r.toOf(0, 1), Run.APPEND, 0, 1, 1, 2, 1, 0, 2);
        r.isMessage(r.toOf(0, 4), Run.SNAPSHOT, 0, 4, 1, 2, 1, 0, 0);
        r.lead(1, 0, 2);
        int append = r.toOf(1, 4);
        r.isMessage(append, Run.APPEND, 1, 4, 2, 2, 1, 1, 2);
        r.deliver(append);
        r.isMessage(r.last(), Run.DENIAL, 4, 1, 2, 0, 0, 0, 0);
        r.expire(2);
        r.isMessage(r.last(), Run.ASK, 2, 4, 3, 2, 1, 0, 0);
        r.deliver(r.toOf(2, 3));
        r.isMessage(r.last(), Run.VOTE, 3, 2, 3, 1, 0, 0, 0);
    }

    private static void messageRefuses() {
        Run r = new Run();
        r.expire(0);
        for (int what : new int[] {-1, 8, MIN, MAX}) {
            r.refuses("what " + what, ARGUMENT, x -> x.message(0, what));
            r.refuses("no MESSAGE, and what", INDEX, x -> x.message(4, what));
            r.refuses("no MESSAGE, and what", INDEX, x -> x.message(-1, what));
        }
        Due.is("what 0", Run.ASK, r.sees(x -> x.message(3, 0)));
        Due.is("what 7", 0, r.sees(x -> x.message(3, 7)));
    }

    private static void whatOfANode() {
        Run r = Run.settled();
        r.isNode(4, 1, 0, -1, 0, 0, 0, 0, 0, 1, 0, 0, 0, 0, 0);
        r.run(4, 8, 9);
        r.run(4, 1, 9);
        r.put(1, 1, 0);
        r.put(2, 2, 0);
        r.run(7, 0, 0);
        r.run(8, 2, 0);
        r.shrink(0);
        r.propose(0, 7, 0, 0);
        r.isNode(0, 1, 1, 0, LEADER, 7, 8, 7, 1, 3, 1, 2, 2, 0x81, 1);
        r.crash(0);
        r.isNode(0, 0, 1, 0, 0, 7, 8, 7, 1, 0, 0, 0, 0, 0, 0);
        r.expire(4);
        r.isNode(4, 1, 1, 4, CANDIDATE);
    }

    private static void nodeRefuses() {
        Run r = Run.settled();
        r.crash(4);
        for (int what : new int[] {-1, 14, MIN, MAX}) {
            r.refuses("what " + what, ARGUMENT, x -> x.node(0, what));
            r.refuses("what " + what + ", of who is down", ARGUMENT, x -> x.node(4, what));
            r.refuses("no NODE, and what " + what, INDEX, x -> x.node(5, what));
        }
        Due.is("what 0", 1, r.node(0, 0));
        Due.is("what 13", 0, r.node(0, 13));
    }

    private static void countOfMessages() {
        Run r = new Run();
        Due.is("none", 0, r.messages());
        r.expire(0);
        Due.is("four", 4, r.messages());
        r.deliver(0);
        r.deliver(0);
        Due.is("those that came by delivering, too", 6, r.messages());
        r.deliver(4);
        Due.is("none came", 6, r.messages());
        r.refuses("a refused call", STATE, x -> x.beat(0));
        Due.is("none came", 6, r.messages());
    }

    /** Two leaders at once, of two TERMS, and two ENTRIES at one INDEX, of which one is never applied. */
    private static void nothingWrong() {
        Run r = Run.settled();
        r.propose(0, 1, 1, 1);
        r.lead(1, 2, 3);
        r.isNode(0, 1, 1, 0, LEADER, 0, 2, 1, 1);
        r.isNode(1, 1, 2, 1, LEADER, 0, 2, 0, 2);
        r.settle(1, 2, 3);
        r.settle(1, 0, 2, 3, 4);
        r.settle(1, 0, 2, 3, 4);
        for (int n = 0; n < 5; n++) {
            Due.is("COMMIT", 2, r.node(n, 6));
            Due.is("KEYS", 0, r.node(n, 11));
        }
        r.restart(0);
        r.settle(1, 0);
        Due.is("applied again", 2, r.node(0, 6));
        Due.is("check", 0, r.sees(RaftRegistry::check));
    }
}
