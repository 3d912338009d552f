import java.util.NoSuchElementException;

/** 'Terms' 1, sentence by sentence: THE STORE, its COMMANDS at their edges, what is forgotten. NODE 0 leads. */
public final class StoreBoundariesTest {
    private static final Class<IndexOutOfBoundsException> INDEX = IndexOutOfBoundsException.class;
    private static final Class<IllegalArgumentException> ARGUMENT = IllegalArgumentException.class;
    private static final Class<NoSuchElementException> ELEMENT = NoSuchElementException.class;
    private static final int MIN = Integer.MIN_VALUE;
    private static final int MAX = Integer.MAX_VALUE;

    public static void main(String[] args) {
        store();
        puts();
        removals();
        comparisons();
        leases();
        ticks();
        compacting();
        forgetting();
        Due.end();
    }

    private static void store() {
        Due.sentence("REVISION is 1 at first, TIME 0, COMPACTED 0", StoreBoundariesTest::atFirst);
        Due.sentence("KEYS 0 to 63", StoreBoundariesTest::firstAndLastKey);
        Due.sentence("a VERSION (1 when it came, one more each time it is put)", StoreBoundariesTest::versions);
        Due.sentence("LEASES 1 to 8", StoreBoundariesTest::firstAndLastLease);
        Due.sentence("0: nothing; 0", StoreBoundariesTest::nothing);
    }

    private static void puts() {
        Due.sentence("KEY a is put with VALUE b and LEASE c: REVISION then", StoreBoundariesTest::anyValue);
        Due.sentence("a LEASE (0 none)", StoreBoundariesTest::leaseOfAPut);
        Due.sentence("-1 if c is not 0 and not there", StoreBoundariesTest::putWithoutItsLease);
    }

    private static void removals() {
        Due.sentence("KEYS a to b that are there are removed", StoreBoundariesTest::edgesOfARange);
        Due.sentence("KEYS a to b that are there are removed: none", StoreBoundariesTest::emptyRanges);
        Due.sentence("from the least: how many", StoreBoundariesTest::allKeysAtOnce);
    }

    private static void comparisons() {
        Due.sentence("all 0 if it is not there", StoreBoundariesTest::compareWhatIsNotThere);
        Due.sentence("is (c 0) equal to, (1) below, (2) above d", StoreBoundariesTest::compareAroundD);
        Due.sentence("is (c 0) equal to, (1) below, (2) above d: far", StoreBoundariesTest::compareFar);
        Due.sentence("KEY e is put with VALUE f, without LEASE: 1", StoreBoundariesTest::putByComparing);
        Due.sentence("else KEY e is removed, if it is there: 0", StoreBoundariesTest::removedByComparing);
    }

    private static void leases() {
        Due.sentence("LEASE a comes .. 1; 0 if it is there", StoreBoundariesTest::leaseComesOnce);
        Due.sentence("END TIME and b (ints, that wrap)", StoreBoundariesTest::endWraps);
        Due.sentence("LEASE a goes, and the KEYS that have it are removed: how many", StoreBoundariesTest::leaseGoes);
        Due.sentence("LEASE a goes: with none, and with all KEYS", StoreBoundariesTest::leaseWithNoneAndAll);
        Due.sentence("-1 if it is not there", StoreBoundariesTest::leaseThatIsNotThere);
        Due.sentence("LEASE a's END is TIME and b: 1; 0 if it is not there", StoreBoundariesTest::endAnew);
        Due.sentence("LEASE a's END is TIME and b: it wraps", StoreBoundariesTest::endAnewWraps);
    }

    private static void ticks() {
        Due.sentence("TIME is one more .. : TIME", StoreBoundariesTest::timeGoesOn);
        Due.sentence("LEASES whose END is not above it go", StoreBoundariesTest::endsAroundTime);
        Due.sentence("from the least on, each as by 5", StoreBoundariesTest::allLeasesEnd);
        Due.sentence("of 7: one for each LEASE that had KEYS", StoreBoundariesTest::revisionsOfATick);
    }

    private static void compacting() {
        Due.sentence("COMPACTED is a, if a is above it", StoreBoundariesTest::compactAboveCompacted);
        Due.sentence("and not above REVISION: 1; else 0", StoreBoundariesTest::compactUpToRevision);
        Due.sentence("A COMMAND with EVENTS makes REVISION one more", StoreBoundariesTest::withoutEvents);
        Due.sentence("and that is theirs", StoreBoundariesTest::oneRevisionForAll);
        Due.sentence("EVENTS of REVISIONS up to COMPACTED are forgotten", StoreBoundariesTest::forgottenUpTo);
    }

    private static void forgetting() {
        Due.sentence("if there are more than 400", StoreBoundariesTest::fourHundredAndOne);
        Due.sentence("COMPACTED becomes the REVISION of the first one", StoreBoundariesTest::firstOfMany);
        Due.sentence("until there are not", StoreBoundariesTest::untilThereAreNot);
        Due.sentence("until there are not: by a tick", StoreBoundariesTest::untilThereAreNotByTick);
        Due.sentence("until there are not: as many as can be", StoreBoundariesTest::allKeysBeyond400);
    }

    private static void atFirst() {
        Run r = new Run();
        for (int n = 0; n < 5; n++) {
            r.isStore(n, 1, 0, 0, 0, 0, 0);
        }
        for (int k = 0; k < 64; k++) {
            r.isKey(k);
        }
    }

    private static void firstAndLastKey() {
        Run r = Run.settled();
        Due.is("put", 2, r.put(0, 10, 0));
        Due.is("put", 3, r.put(63, 20, 0));
        r.isKey(0, 1, 2, 2, 10);
        r.isKey(63, 1, 3, 3, 20);
        r.isKey(1);
        r.isKey(62);
        r.isPut(1, 0, 2, 0, 10);
        r.isPut(1, 1, 3, 63, 20);
        Due.is("past", 10, r.sees(x -> x.past(0, 0, 2)));
        Due.is("past", 20, r.sees(x -> x.past(0, 63, 3)));
        Due.is("compare and put", 1, r.run(3, 63, 3, 0, 20, 0, 11));
        Due.is("compare and put", 1, r.run(3, 0, 3, 0, 11, 63, 21));
        r.isKey(0, 2, 2, 4, 11);
        r.isKey(63, 2, 3, 5, 21);
        Due.is("compare and remove", 0, r.run(3, 63, 3, 1, 21, 0, 0));
        r.isKey(0);
        r.isRemoved(6, 0, 6, 0);
        Due.is("remove", 1, r.run(2, 63, 63));
        r.isKey(63);
        r.isRemoved(7, 0, 7, 63);
        r.more(0, 0, 64, 0);
        r.refuses("e is 64", ARGUMENT, x -> x.propose(0, 3, 0, 0));
        r.refuses("a is 64", ARGUMENT, x -> x.propose(0, 1, 64, 0));
        r.refuses("a is -1", ARGUMENT, x -> x.propose(0, 1, -1, 0));
    }

    private static void versions() {
        Run r = Run.settled();
        r.put(7, 5, 0);
        r.isKey(7, 1, 2, 2, 5);
        r.put(7, 5, 0);
        r.isKey(7, 2, 2, 3, 5);
        r.put(7, 0, 0);
        r.isKey(7, 3, 2, 4, 0);
        r.run(2, 7, 7);
        r.isKey(7);
        r.put(7, 9, 0);
        r.isKey(7, 1, 6, 6, 9);
    }

    private static void firstAndLastLease() {
        Run r = Run.settled();
        Due.is("LEASE 1", 1, r.run(4, 1, 9));
        Due.is("LEASE 8", 1, r.run(4, 8, 9));
        Due.is("bits", 0x81, r.node(0, 12));
        Due.is("put with 1", 2, r.put(1, 0, 1));
        Due.is("put with 8", 3, r.put(2, 0, 8));
        Due.is("renew 8", 1, r.run(6, 8, 10));
        Due.is("renew 1", 1, r.run(6, 1, 10));
        Due.is("8 goes", 1, r.run(5, 8, 0));
        Due.is("bits", 1, r.node(0, 12));
        Due.is("1 goes", 1, r.run(5, 1, 0));
        Due.is("bits", 0, r.node(0, 12));
        for (int kind = 4; kind <= 6; kind++) {
            int k = kind;
            r.refuses("LEASE 0", ARGUMENT, x -> x.propose(0, k, 0, 9));
            r.refuses("LEASE 9", ARGUMENT, x -> x.propose(0, k, 9, 9));
        }
    }

    /** The leader's first ENTRY. */
    private static void nothing() {
        Run r = Run.settled();
        Due.is("its RESULT", 0, r.sees(x -> x.result(0, 1)));
        r.isStore(0, 1, 0, 0, 0, 0, 0);
    }

    private static void anyValue() {
        Run r = Run.settled();
        int[] values = {0, -1, MIN, MAX};
        for (int i = 0; i < values.length; i++) {
            Due.is("REVISION then", 2 + i, r.put(i, values[i], 0));
            r.isKey(i, 1, 2 + i, 2 + i, values[i]);
            r.isPut(1, i, 2 + i, i, values[i]);
            int k = i;
            Due.is("past", values[i], r.sees(x -> x.past(0, k, 2 + k)));
        }
    }

    private static void leaseOfAPut() {
        Run r = Run.settled();
        r.run(4, 3, 9);
        r.run(4, 4, 9);
        r.put(5, 1, 3);
        r.isKey(5, 1, 2, 2, 1, 3);
        r.put(5, 1, 4);
        r.isKey(5, 2, 2, 3, 1, 4);
        Due.is("LEASE 3 has no KEYS", 0, r.run(5, 3, 0));
        r.put(5, 1, 0);
        r.isKey(5, 3, 2, 4, 1, 0);
        Due.is("LEASE 4 has none either", 0, r.run(5, 4, 0));
        r.isKey(5, 3, 2, 4, 1, 0);
    }

    private static void putWithoutItsLease() {
        Run r = Run.settled();
        r.run(4, 2, 9);
        Due.is("LEASE 2 is there", 2, r.put(5, 50, 2));
        for (int lease : new int[] {1, 3, 8}) {
            Due.is("LEASE " + lease + " is not", -1, r.put(5, 51, lease));
        }
        Due.is("nor for a new KEY", -1, r.put(6, 51, 3));
        r.isKey(5, 1, 2, 2, 50, 2);
        r.isKey(6);
        r.isStore(0, 2, 0, 0, 1, 2, 1);
        r.run(5, 2, 0);
        Due.is("LEASE 2 went", -1, r.put(5, 52, 2));
        Due.is("0 needs none", 4, r.put(5, 53, 0));
        r.isKey(5, 1, 4, 4, 53);
    }

    private static void edgesOfARange() {
        Run r = Run.settled();
        for (int k = 9; k <= 13; k++) {
            r.command(1, k, k);
        }
        r.settle(0, 1, 2);
        Due.is("10 to 12", 3, r.run(2, 10, 12));
        r.isKey(9, 1, 2, 2, 9);
        r.isKey(10);
        r.isKey(12);
        r.isKey(13, 1, 6, 6, 13);
        r.isRemoved(7, 0, 7, 10);
        r.isRemoved(7, 1, 7, 11);
        r.isRemoved(7, 2, 7, 12);
        Due.is("one KEY", 1, r.run(2, 13, 13));
        r.isKey(13);
        r.isStore(0, 8, 0, 0, 1, 0, 9);
    }

    private static void emptyRanges() {
        Run r = Run.settled();
        Due.is("in an empty STORE", 0, r.run(2, 0, 63));
        r.put(20, 1, 0);
        Due.is("before it", 0, r.run(2, 0, 19));
        Due.is("behind it", 0, r.run(2, 21, 63));
        Due.is("from above to below", 0, r.run(2, 21, 20));
        Due.is("from the last to the first", 0, r.run(2, 63, 0));
        r.isKey(20, 1, 2, 2, 1);
        r.isStore(0, 2, 0, 0, 1, 0, 1);
    }

    private static void allKeysAtOnce() {
        Run r = Run.settled();
        for (int k = 63; k >= 0; k--) {
            r.command(1, k, 0);
        }
        r.settle(0, 1, 2);
        r.isStore(0, 65, 0, 0, 64, 0, 64);
        Due.is("all", 64, r.run(2, 0, 63));
        r.isStore(0, 66, 0, 0, 0, 0, 128);
        for (int k = 0; k < 64; k++) {
            r.isRemoved(66, k, 66, k);
        }
    }

    private static void compareWhatIsNotThere() {
        Run r = Run.settled();
        for (int b = 0; b < 4; b++) {
            Due.is("0 is 0", 1, r.run(3, 40, b, 0, 0, 10 + b, 1));
            Due.is("0 is not below 0", 0, r.run(3, 40, b, 1, 0, 50, 1));
            Due.is("0 is below 1", 1, r.run(3, 40, b, 1, 1, 20 + b, 1));
            Due.is("0 is not above 0", 0, r.run(3, 40, b, 2, 0, 50, 1));
            Due.is("0 is above -1", 1, r.run(3, 40, b, 2, -1, 30 + b, 1));
        }
        r.isStore(0, 13, 0, 0, 12, 0, 12);
        r.put(40, 7, 0);
        r.run(2, 40, 40);
        Due.is("what it was does not count", 1, r.run(3, 40, 0, 0, 0, 60, 1));
    }

    private static void compareAroundD() {
        int[] has = {2, 2, 3, -3};
        for (int b = 0; b < 4; b++) {
            Run r = Run.settled();
            r.put(13, 8, 0);
            r.put(13, -3, 0); // VERSION 2, CAME 2, CHANGED 3, VALUE -3
            int v = has[b];
            Due.is("equal to", 1, r.run(3, 13, b, 0, v, 20, 0));
            Due.is("one less is not", 0, r.run(3, 13, b, 0, v + 1, 50, 0));
            Due.is("one more is not", 0, r.run(3, 13, b, 0, v - 1, 50, 0));
            Due.is("one below", 1, r.run(3, 13, b, 1, v + 1, 20, 0));
            Due.is("the same is not below", 0, r.run(3, 13, b, 1, v, 50, 0));
            Due.is("one above is not below", 0, r.run(3, 13, b, 1, v - 1, 50, 0));
            Due.is("one above", 1, r.run(3, 13, b, 2, v - 1, 20, 0));
            Due.is("the same is not above", 0, r.run(3, 13, b, 2, v, 50, 0));
            Due.is("one below is not above", 0, r.run(3, 13, b, 2, v + 1, 50, 0));
            r.isStore(0, 6, 0, 0, 2, 0, 5);
        }
    }

    /** A difference of these would wrap. */
    private static void compareFar() {
        Run r = Run.settled();
        r.put(0, MIN, 0);
        r.put(1, MAX, 0);
        Due.is("the least is below the greatest", 1, r.run(3, 0, 3, 1, MAX, 9, 0));
        Due.is("it is not above", 0, r.run(3, 0, 3, 2, MAX, 50, 0));
        Due.is("the greatest is above the least", 1, r.run(3, 1, 3, 2, MIN, 9, 0));
        Due.is("it is not below", 0, r.run(3, 1, 3, 1, MIN, 50, 0));
        Due.is("the least is itself", 1, r.run(3, 0, 3, 0, MIN, 9, 0));
        Due.is("the greatest is itself", 1, r.run(3, 1, 3, 0, MAX, 9, 0));
        Due.is("they are not the same", 0, r.run(3, 1, 3, 0, MIN, 50, 0));
        Due.is("the least is below 1", 1, r.run(3, 0, 3, 1, 1, 9, 0));
        Due.is("nothing is below the least", 0, r.run(3, 0, 3, 1, MIN, 50, 0));
        Due.is("nothing is above the greatest", 0, r.run(3, 1, 3, 2, MAX, 50, 0));
    }

    private static void putByComparing() {
        Run r = Run.settled();
        r.run(4, 8, 9);
        r.put(5, 1, 8);
        Due.is("KEY e is KEY a", 1, r.run(3, 5, 0, 0, 1, 5, MIN));
        r.isKey(5, 2, 2, 3, MIN, 0);
        Due.is("the LEASE has no KEY", 0, r.run(5, 8, 0));
        Due.is("a new KEY", 1, r.run(3, 5, 3, 0, MIN, 6, MAX));
        r.isKey(6, 1, 4, 4, MAX, 0);
    }

    private static void removedByComparing() {
        Run r = Run.settled();
        r.run(4, 8, 9);
        r.put(5, 1, 8);
        Due.is("KEY e is not there", 0, r.run(3, 5, 0, 0, 2, 6, 7));
        r.isStore(0, 2, 0, 0, 1, 128, 1);
        Due.is("KEY e is KEY a", 0, r.run(3, 5, 0, 0, 2, 5, 7));
        r.isStore(0, 3, 0, 0, 0, 128, 2);
        r.isKey(5);
        r.isRemoved(3, 0, 3, 5);
    }

    private static void leaseComesOnce() {
        Run r = Run.settled();
        Due.is("it comes", 1, r.run(4, 5, 2));
        Due.is("it is there", 0, r.run(4, 5, 100));
        r.run(7, 0, 0);
        Due.is("bits", 16, r.node(0, 12));
        r.run(7, 0, 0);
        Due.is("its END was not changed by that", 0, r.node(0, 12));
        Due.is("it comes anew", 1, r.run(4, 5, 1));
        r.put(1, 1, 5);
        r.run(7, 0, 0);
        r.isStore(0, 3, 3, 0, 0, 0, 2);
        Due.is("without the KEYS that it had", 1, r.run(4, 5, 1));
        Due.is("none", 0, r.run(5, 5, 0));
    }

    private static void endWraps() {
        Run r = Run.settled();
        r.run(7, 0, 0); // TIME 1
        Due.is("END is the greatest int", 1, r.run(4, 1, MAX - 1));
        Due.is("END wraps to the least", 1, r.run(4, 2, MAX));
        Due.is("END is the least but one", 1, r.run(4, 3, MIN));
        Due.is("END is TIME", 1, r.run(4, 4, 0));
        Due.is("END is before TIME", 1, r.run(4, 5, -1));
        Due.is("END is TIME of the next tick", 1, r.run(4, 6, 1));
        Due.is("END is behind that", 1, r.run(4, 7, 2));
        Due.is("all stay until a tick", 0x7F, r.node(0, 12));
        r.run(7, 0, 0);
        Due.is("what is not above TIME went", 0x41, r.node(0, 12));
        r.run(7, 0, 0);
        Due.is("then the next", 1, r.node(0, 12));
    }

    private static void leaseGoes() {
        Run r = Run.settled();
        r.run(4, 1, 9);
        r.run(4, 2, 9);
        r.put(63, 1, 1);
        r.put(0, 1, 1);
        r.put(30, 1, 2);
        r.put(31, 1, 0);
        Due.is("two KEYS", 2, r.run(5, 1, 0));
        r.isStore(0, 6, 0, 0, 2, 2, 6);
        r.isRemoved(6, 0, 6, 0);
        r.isRemoved(6, 1, 6, 63);
        r.isKey(30, 1, 4, 4, 1, 2);
        r.isKey(31, 1, 5, 5, 1, 0);
        Due.is("a KEY that was removed is not counted", 1, r.run(2, 30, 30));
        Due.is("none is left", 0, r.run(5, 2, 0));
        r.isStore(0, 7, 0, 0, 1, 0, 7);
    }

    private static void leaseWithNoneAndAll() {
        Run r = Run.settled();
        r.run(4, 8, 9);
        Due.is("without KEYS", 0, r.run(5, 8, 0));
        r.isStore(0, 1, 0, 0, 0, 0, 0);
        r.run(4, 8, 9);
        for (int k = 0; k < 64; k++) {
            r.command(1, k, k, 8, 0, 0, 0);
        }
        r.settle(0, 1, 2);
        Due.is("with all KEYS", 64, r.run(5, 8, 0));
        r.isStore(0, 66, 0, 0, 0, 0, 128);
        r.isRemoved(66, 0, 66, 0);
        r.isRemoved(66, 63, 66, 63);
    }

    private static void leaseThatIsNotThere() {
        Run r = Run.settled();
        r.run(4, 4, 9);
        for (int lease : new int[] {1, 3, 5, 8}) {
            Due.is("LEASE " + lease, -1, r.run(5, lease, 0));
        }
        Due.is("LEASE 4", 0, r.run(5, 4, 0));
        Due.is("LEASE 4 again", -1, r.run(5, 4, 0));
        r.isStore(0, 1, 0, 0, 0, 0, 0);
    }

    private static void endAnew() {
        Run r = Run.settled();
        Due.is("not there", 0, r.run(6, 1, 5));
        Due.is("it did not come by that", 0, r.node(0, 12));
        r.run(4, 1, 1);
        r.run(4, 2, 50);
        Due.is("later", 1, r.run(6, 1, 2));
        Due.is("sooner", 1, r.run(6, 2, 1));
        r.run(7, 0, 0);
        Due.is("bits", 1, r.node(0, 12));
        Due.is("from TIME on", 1, r.run(6, 1, 2));
        r.run(7, 0, 0);
        Due.is("bits", 1, r.node(0, 12));
        r.run(7, 0, 0);
        Due.is("bits", 0, r.node(0, 12));
        Due.is("it went", 0, r.run(6, 1, 5));
    }

    private static void endAnewWraps() {
        Run r = Run.settled();
        r.run(7, 0, 0); // TIME 1
        for (int lease = 1; lease <= 4; lease++) {
            r.run(4, lease, 9);
        }
        r.run(6, 1, MAX - 1);
        r.run(6, 2, MAX);
        r.run(6, 3, MIN);
        r.run(6, 4, 0);
        Due.is("all stay until a tick", 15, r.node(0, 12));
        r.run(7, 0, 0);
        Due.is("the greatest int is above TIME, what wrapped is not", 1, r.node(0, 12));
    }

    private static void timeGoesOn() {
        Run r = Run.settled();
        for (int t = 1; t <= 5; t++) {
            Due.is("tick", t, r.run(7, MIN, MAX));
            r.isStore(0, 1, t, 0, 0, 0, 0);
        }
    }

    private static void endsAroundTime() {
        Run r = Run.settled();
        r.run(7, 0, 0);
        r.run(4, 1, 0); // END 1, TIME 1
        r.run(4, 2, 1); // END 2
        r.run(4, 3, 2); // END 3
        Due.is("TIME 2", 2, r.run(7, 0, 0));
        Due.is("END 3 is above", 4, r.node(0, 12));
        Due.is("TIME 3", 3, r.run(7, 0, 0));
        Due.is("END 3 is not", 0, r.node(0, 12));
    }

    private static void allLeasesEnd() {
        Run r = Run.settled();
        for (int lease = 8; lease >= 1; lease--) {
            r.command(4, lease, 1);
            r.command(1, 20 - lease, 0, lease, 0, 0, 0);
        }
        r.command(1, 50, 0, 1, 0, 0, 0);
        r.settle(0, 1, 2);
        r.isStore(0, 10, 0, 0, 9, 255, 9);
        r.run(7, 0, 0);
        r.isStore(0, 18, 1, 0, 0, 0, 18);
        r.isRemoved(11, 0, 11, 19);
        r.isRemoved(11, 1, 11, 50);
        for (int lease = 2; lease <= 8; lease++) {
            r.isRemoved(11, lease, 10 + lease, 20 - lease);
        }
    }

    private static void revisionsOfATick() {
        Run r = Run.settled();
        for (int lease = 1; lease <= 5; lease++) {
            r.command(4, lease, 1);
        }
        r.command(1, 1, 0, 4, 0, 0, 0);
        r.command(1, 2, 0, 2, 0, 0, 0);
        r.command(1, 3, 0, 2, 0, 0, 0);
        r.settle(0, 1, 2);
        r.run(7, 0, 0);
        r.isStore(0, 6, 1, 0, 0, 0, 6);
        r.isRemoved(5, 0, 5, 2);
        r.isRemoved(5, 1, 5, 3);
        r.isRemoved(5, 2, 6, 1);
        r.run(4, 7, 1);
        r.run(7, 0, 0);
        r.isStore(0, 6, 2, 0, 0, 0, 6);
        Due.is("between the two REVISIONS of a tick", 0, r.sees(x -> x.past(0, 1, 5)));
        r.refuses("KEY 2 went by then", ELEMENT, x -> x.past(0, 2, 5));
    }

    private static void compactAboveCompacted() {
        Run r = Run.settled();
        Due.is("0 is not above 0", 0, r.run(8, 0, 0));
        Due.is("-1", 0, r.run(8, -1, 0));
        Due.is("the least", 0, r.run(8, MIN, 0));
        r.isStore(0, 1, 0, 0, 0, 0, 0);
        Due.is("1 is", 1, r.run(8, 1, 0));
        r.isStore(0, 1, 0, 1, 0, 0, 0);
        Due.is("1 is not above 1", 0, r.run(8, 1, 0));
        for (int k = 0; k < 4; k++) {
            r.put(k, k, 0); // REVISIONS 2 to 5
        }
        Due.is("3", 1, r.run(8, 3, 0));
        Due.is("2 is below", 0, r.run(8, 2, 0));
        Due.is("3 is the same", 0, r.run(8, 3, 0));
        r.isStore(0, 5, 0, 3, 4, 0, 2);
        Due.is("4 is above", 1, r.run(8, 4, 0));
        r.isStore(0, 5, 0, 4, 4, 0, 1);
    }

    private static void compactUpToRevision() {
        Run r = Run.settled();
        Due.is("REVISION is 1", 0, r.run(8, 2, 0));
        r.put(1, 1, 0);
        r.put(1, 2, 0);
        Due.is("above REVISION", 0, r.run(8, 4, 0));
        Due.is("the greatest", 0, r.run(8, MAX, 0));
        r.isStore(0, 3, 0, 0, 1, 0, 2);
        Due.is("REVISION", 1, r.run(8, 3, 0));
        r.isStore(0, 3, 0, 3, 1, 0, 0);
        r.isKey(1, 2, 2, 3, 2);
        Due.is("it is known as past", 2, r.sees(x -> x.past(0, 1, 3)));
    }

    private static void withoutEvents() {
        Run r = Run.settled();
        r.run(4, 1, 1); // comes
        r.run(4, 1, 1); // is there
        r.run(6, 1, 1);
        r.run(6, 2, 1);
        r.run(5, 2, 0); // is not there
        r.run(7, 0, 0); // LEASE 1 goes, without KEYS
        r.run(7, 0, 0);
        r.put(1, 1, 1); // its LEASE is not there
        r.run(2, 0, 63); // none
        r.run(3, 1, 0, 0, 9, 2, 1); // not so, and KEY 2 is not there
        r.run(8, 5, 0);
        r.run(8, 1, 0);
        r.isStore(0, 1, 2, 1, 0, 0, 0);
        r.put(1, 1, 0);
        Due.is("put", 2, r.node(0, 8));
        r.run(3, 1, 0, 0, 1, 2, 1);
        Due.is("compared and put", 3, r.node(0, 8));
        r.run(3, 1, 0, 0, 9, 2, 1);
        Due.is("compared and removed", 4, r.node(0, 8));
        r.run(2, 0, 63);
        Due.is("removed", 5, r.node(0, 8));
    }

    private static void oneRevisionForAll() {
        Run r = Run.settled();
        r.command(1, 4, 0);
        r.command(1, 5, 0);
        r.command(2, 4, 5);
        r.command(1, 6, 0);
        r.settle(0, 1, 2);
        r.isPut(1, 0, 2, 4, 0);
        r.isPut(1, 1, 3, 5, 0);
        r.isRemoved(1, 2, 4, 4);
        r.isRemoved(1, 3, 4, 5);
        r.isPut(1, 4, 5, 6, 0);
    }

    private static void forgottenUpTo() {
        Run r = Run.settled();
        r.command(1, 1, 11); // 2
        r.command(1, 2, 22); // 3
        r.command(2, 1, 2); // 4, two EVENTS
        r.command(1, 1, 12); // 5
        r.settle(0, 1, 2);
        r.isStore(0, 5, 0, 0, 1, 0, 5);
        r.run(8, 3, 0);
        Due.is("EVENTS", 3, r.node(0, 13));
        r.isRemoved(4, 0, 4, 1);
        r.refuses("of COMPACTED", ARGUMENT, x -> x.event(0, 3, 0));
        Due.is("KEYS at COMPACTED are known", 11, r.sees(x -> x.past(0, 1, 3)));
        Due.is("KEYS at COMPACTED are known", 22, r.sees(x -> x.past(0, 2, 3)));
        r.refuses("before it", ARGUMENT, x -> x.past(0, 1, 2));
        r.run(8, 4, 0);
        Due.is("both of one REVISION", 1, r.node(0, 13));
        r.isPut(5, 0, 5, 1, 12);
        r.refuses("behind the last", INDEX, x -> x.event(0, 5, 1));
        r.refuses("KEY 1 was not there", ELEMENT, x -> x.past(0, 1, 4));
        r.refuses("KEY 2 was not there", ELEMENT, x -> x.past(0, 2, 4));
        Due.is("KEY 1 came anew", 12, r.sees(x -> x.past(0, 1, 5)));
        r.refuses("KEY 2 did not", ELEMENT, x -> x.past(0, 2, 5));
    }

    /** Three times all 64 KEYS are put, one REVISION each, and removed by one: 384 EVENTS of 195 REVISIONS. */
    private static void threeRounds(Run r) {
        for (int round = 1; round <= 3; round++) {
            for (int k = 0; k < 64; k++) {
                r.command(1, k, 100 * round + k);
            }
            r.command(2, 0, 63);
        }
    }

    private static void fourHundredAndOne() {
        Run r = Run.led();
        threeRounds(r);
        for (int k = 0; k < 16; k++) {
            r.command(1, k, 5);
        }
        r.settle(0, 1, 2);
        r.isStore(0, 212, 0, 0, 16, 0, 400);
        r.isPut(1, 0, 2, 0, 100);
        r.isPut(1, 399, 212, 15, 5);
        Due.is("one more", 213, r.put(16, 5, 0));
        r.isStore(0, 213, 0, 2, 17, 0, 400);
        r.isPut(3, 0, 3, 1, 101);
        r.isPut(3, 399, 213, 16, 5);
        Due.throwing("EVENTS of REVISION 2", ARGUMENT, () -> r.sees(x -> x.event(0, 2, 0)));
        Due.is("REVISION 2 is known as past", 100, r.sees(x -> x.past(0, 0, 2)));
        Due.throwing("KEY 1 came later", ELEMENT, () -> r.sees(x -> x.past(0, 1, 2)));
        Due.throwing("REVISION 1 is not", ARGUMENT, () -> r.sees(x -> x.past(0, 0, 1)));
        Due.is("COMPACTED is 2", 0, r.run(8, 2, 0));
        Due.is("3 is above it", 1, r.run(8, 3, 0));
        Due.is("EVENTS", 399, r.node(0, 13));
        r.put(17, 5, 0);
        r.isStore(0, 214, 0, 3, 18, 0, 400);
    }

    /** The first EVENTS that are left are ten of one REVISION. */
    private static void firstOfMany() {
        Run r = Run.led();
        for (int k = 0; k < 10; k++) {
            r.command(1, k, 7);
        }
        r.command(2, 0, 63); // REVISION 12
        r.command(8, 11, 0);
        threeRounds(r);
        for (int k = 0; k < 6; k++) {
            r.command(1, k, 5);
        }
        r.settle(0, 1, 2);
        r.isStore(0, 213, 0, 11, 6, 0, 400);
        r.isRemoved(12, 0, 12, 0);
        Due.is("past before the removal", 7, r.sees(x -> x.past(0, 9, 11)));
        r.put(6, 5, 0);
        r.isStore(0, 214, 0, 12, 7, 0, 391);
        r.isPut(13, 0, 13, 0, 100);
        Due.throwing("past at the removal", ELEMENT, () -> r.sees(x -> x.past(0, 9, 12)));
        Due.throwing("COMPACTED", ARGUMENT, () -> r.sees(x -> x.event(0, 12, 0)));
    }

    private static void untilThereAreNot() {
        Run r = Run.led();
        threeRounds(r);
        for (int k = 0; k < 16; k++) {
            r.command(1, k, 5);
        }
        r.command(2, 0, 63); // 416 EVENTS
        r.settle(0, 1, 2);
        r.isStore(0, 213, 0, 17, 0, 0, 400);
        r.isPut(18, 0, 18, 16, 116);
        r.isRemoved(18, 399, 213, 15);
        Due.is("past at COMPACTED", 115, r.sees(x -> x.past(0, 15, 17)));
        Due.throwing("not there yet", ELEMENT, () -> r.sees(x -> x.past(0, 16, 17)));
    }

    private static void untilThereAreNotByTick() {
        Run r = Run.led();
        r.command(4, 1, 1);
        r.command(4, 2, 1);
        threeRounds(r);
        for (int k = 0; k < 14; k++) {
            r.command(1, k, 5, 1 + k % 2, 0, 0, 0);
            if (k == 6) {
                r.command(1, 30, 5, 1, 0, 0, 0);
            }
        }
        r.settle(0, 1, 2);
        r.isStore(0, 211, 0, 0, 15, 3, 399);
        r.run(7, 0, 0); // 8 KEYS of LEASE 1, then 7 of LEASE 2
        r.isStore(0, 213, 1, 15, 0, 0, 400);
        r.isRemoved(212, 7, 212, 30);
        r.isRemoved(212, 8, 213, 1);
        r.isRemoved(212, 14, 213, 13);
    }

    /** 400 EVENTS with all 64 KEYS there, and then these are removed at once. */
    private static void allKeysBeyond400() {
        Run r = Run.led();
        for (int keys : new int[] {64, 64, 40}) {
            for (int k = 0; k < keys; k++) {
                r.command(1, k, 5);
            }
            r.command(2, 0, 63);
        }
        for (int k = 0; k < 64; k++) {
            r.command(1, k, 6);
        }
        r.command(2, 0, 63);
        r.settle(0, 1, 2);
        r.isStore(0, 237, 0, 65, 0, 0, 400);
        r.isRemoved(66, 0, 66, 0);
        r.isRemoved(66, 399, 237, 63);
        Due.is("past at COMPACTED", 5, r.sees(x -> x.past(0, 63, 65)));
        Due.throwing("past at the next", ELEMENT, () -> r.sees(x -> x.past(0, 63, 66)));
    }
}
