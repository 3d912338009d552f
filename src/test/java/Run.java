import java.util.ArrayList;
import java.util.List;

/**
 * A registry that is used for at most 512 calls, as the document says; more are told as wrong. What it was told is
 * remembered, so the same run can be played again on another object: to see that a refused call changed nothing, and
 * how many RECORDS a call writes.
 */
final class Run {
    static final int MOST_CALLS = 512;
    static final int ASK = 0;
    static final int VOTE = 1;
    static final int APPEND = 2;
    static final int ACCEPT = 3;
    static final int DENIAL = 4;
    static final int SNAPSHOT = 5;

    interface Call {
        long on(RaftRegistry x);
    }

    private final RaftRegistry x = new RaftRegistry();
    private final List<Call> script = new ArrayList<>();
    private List<Integer> toldMore = List.of(0, 0, 0, 0);
    private int calls = 0;
    private int sent = 0;
    // What is seen of this run without a refused call; null as soon as the script grows.
    private String unharmed;

    /** NODE 0 leads TERM 1 by the VOTES of 1 and 2; MESSAGES 6 to 9 have its first ENTRY for 1 to 4. */
    static Run led() {
        Run r = new Run();
        r.lead(0, 1, 2);
        return r;
    }

    /** As led, and that ENTRY is committed by NODE 0, with 1 and 2. */
    static Run settled() {
        Run r = led();
        r.converse(6);
        r.converse(7);
        return r;
    }

    // Calls that may change something.

    private long make(Call c) {
        calls++;
        if (calls == MOST_CALLS + 1) {
            Due.wrong("the test uses its object for more than 512 calls");
        }
        return c.on(x);
    }

    private int does(Call c) {
        script.add(c);
        unharmed = null;
        return (int) make(c);
    }

    private int sends(Call c) {
        int came = does(c);
        sent += came;
        return came;
    }

    int expire(int n) {
        return sends(y -> y.expire(n));
    }

    int deliver(int m) {
        return sends(y -> y.deliver(m));
    }

    int beat(int n) {
        return sends(y -> y.beat(n));
    }

    void more(int c, int d, int e, int f) {
        does(y -> {
            y.more(c, d, e, f);
            return 0;
        });
    }

    int propose(int n, int kind, int a, int b) {
        return does(y -> y.propose(n, kind, a, b));
    }

    int shrink(int n) {
        return does(y -> y.shrink(n));
    }

    void crash(int n) {
        does(y -> {
            y.crash(n);
            return 0;
        });
    }

    int start(int n) {
        return does(y -> y.start(n));
    }

    void power(int n, int k) {
        does(y -> {
            y.power(n, k);
            return 0;
        });
    }

    // What several calls do together.

    void restart(int n) {
        crash(n);
        start(n);
    }

    /** The number of the MESSAGE to NODE to among those that the last call sent from NODE from to all. */
    int toOf(int from, int to) {
        return sent - 4 + (to < from ? to : to - 1);
    }

    int last() {
        return sent - 1;
    }

    /** NODE n expires, is asked for and gets the VOTES of these, and leads by the last of them. */
    void lead(int n, int... voters) {
        expire(n);
        int first = sent - 4;
        for (int voter : voters) {
            deliver(first + (voter < n ? voter : voter - 1));
            deliver(last());
        }
    }

    /** Delivers m, what comes by that, and so on, as long as one MESSAGE comes. */
    void converse(int m) {
        int next = m;
        for (int i = 0; i < MOST_CALLS && next >= 0; i++) {
            next = deliver(next) == 1 ? last() : -1;
        }
    }

    /** Leader n sends, and talks with these until they have all that it has. */
    void settle(int n, int... followers) {
        beat(n);
        int first = sent - 4;
        for (int f : followers) {
            converse(first + (f < n ? f : f - 1));
        }
    }

    /** Proposes to NODE 0 a COMMAND with all its numbers; its INDEX. */
    int command(int kind, int a, int b, int c, int d, int e, int f) {
        List<Integer> told = List.of(c, d, e, f);
        if (!told.equals(toldMore)) {
            more(c, d, e, f);
            toldMore = told;
        }
        return propose(0, kind, a, b);
    }

    int command(int kind, int a, int b) {
        return command(kind, a, b, 0, 0, 0, 0);
    }

    /** As command, committed with NODES 1 and 2; its RESULT by NODE 0. */
    int run(int kind, int a, int b, int c, int d, int e, int f) {
        int index = command(kind, a, b, c, d, e, f);
        settle(0, 1, 2);
        return (int) sees(y -> y.result(0, index));
    }

    int run(int kind, int a, int b) {
        return run(kind, a, b, 0, 0, 0, 0);
    }

    int put(int k, int value, int lease) {
        return run(1, k, value, lease, 0, 0, 0);
    }

    // Calls that look.

    long sees(Call c) {
        return make(c);
    }

    int node(int n, int what) {
        return (int) sees(y -> y.node(n, what));
    }

    int entry(int n, int index) {
        return (int) sees(y -> y.entry(n, index));
    }

    long digest(int n) {
        return sees(y -> y.digest(n));
    }

    int messages() {
        return (int) sees(RaftRegistry::messages);
    }

    /** What is due of NODE n, as far as it is told: up, TERM, VOTED, ROLE, BASE, LAST, COMMIT, TERM at LAST, .. */
    void isNode(int n, int... due) {
        for (int what = 0; what < due.length; what++) {
            Due.is("node(" + n + ", " + what + ")", due[what], node(n, what));
        }
    }

    /** What is due of NODE n's STORE: REVISION, TIME, COMPACTED, KEYS, bits of LEASES, EVENTS. */
    void isStore(int n, int... due) {
        for (int i = 0; i < due.length; i++) {
            Due.is("node(" + n + ", " + (8 + i) + ")", due[i], node(n, 8 + i));
        }
    }

    /** What is due of KEY k at NODE 0: VERSION, CAME, CHANGED, VALUE, LEASE; what is left out is 0. */
    void isKey(int k, int... due) {
        for (int i = 0; i < 5; i++) {
            int what = i;
            Due.is("key(0, " + k + ", " + what + ")", i < due.length ? due[i] : 0, sees(y -> y.key(0, k, what)));
        }
    }

    /** What is due of MESSAGE m: TYPE, FROM, TO, TERM, number, told TERM, ENTRIES, COMMIT; what is left out is 0. */
    void isMessage(int m, int... due) {
        for (int i = 0; i < 8; i++) {
            int what = i;
            Due.is("message(" + m + ", " + what + ")", i < due.length ? due[i] : 0, sees(y -> y.message(m, what)));
        }
    }

    void isRemoved(int r, int i, int revision, int k) {
        Due.is("event(0, " + r + ", " + i + ")", -1L - (64L * revision + k), sees(y -> y.event(0, r, i)));
    }

    void isPut(int r, int i, int revision, int k, int value) {
        long due = (1L << 38) * revision + (1L << 32) * k + Integer.toUnsignedLong(value);
        Due.is("event(0, " + r + ", " + i + ")", due, sees(y -> y.event(0, r, i)));
    }

    /** The call throws that, and what is to be seen, now and later, is the same as without it. */
    void refuses(String what, Class<? extends RuntimeException> due, Call c) {
        Due.throwing(what, due, () -> make(c));
        int room = MOST_CALLS - script.size() - 1;
        if (unharmed == null) {
            unharmed = Look.at(script, room);
        }
        List<Call> with = new ArrayList<>(script);
        with.add(c);
        Due.same(what + ": the refused call changed something", unharmed, Look.at(with, room));
    }

    /** How many RECORDS of NODE n the call writes: with power for one less it goes down. */
    int records(int n, Call c) {
        for (int k = 0; k <= 100; k++) {
            RaftRegistry y = Look.played(script);
            y.power(n, k);
            c.on(y);
            if (y.node(n, 0) == 1) {
                return k;
            }
        }
        return -1;
    }
}
