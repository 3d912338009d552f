/** A registry with the hand that delivers its messages. */
final class Play {
    final RaftRegistry x = new RaftRegistry();
    private int seen = 0;

    /** Delivers what was sent since the last time, and what comes by that. */
    Play deliverAll() {
        int there = x.messages();
        while (seen < there) {
            there += x.deliver(seen++);
        }
        return this;
    }

    /** As deliverAll, but what goes to other nodes than these is lost. */
    Play deliverAmong(int... nodes) {
        int there = x.messages();
        while (seen < there) {
            int m = seen++;
            int to = x.message(m, 2);
            for (int n : nodes) {
                if (to == n) {
                    there += x.deliver(m);
                }
            }
        }
        return this;
    }

    Play loseAll() {
        seen = x.messages();
        return this;
    }

    /** NODE n becomes leader, and all hear it. */
    Play elect(int n) {
        x.expire(n);
        return deliverAll();
    }

    /** All nodes that are up apply what leader n has. */
    Play settle(int n) {
        x.beat(n);
        deliverAll();
        x.beat(n);
        return deliverAll();
    }

    /** Proposes to leader 0 a command with all its numbers; its index. */
    int command(int kind, int a, int b, int c, int d, int e, int f) {
        x.more(c, d, e, f);
        return x.propose(0, kind, a, b);
    }

    /** As command, and all apply it; its result. */
    int run(int kind, int a, int b, int c, int d, int e, int f) {
        int index = command(kind, a, b, c, d, e, f);
        settle(0);
        return x.result(0, index);
    }

    int run(int kind, int a, int b) {
        return run(kind, a, b, 0, 0, 0, 0);
    }

    int lastMessage() {
        return x.messages() - 1;
    }

    /** What is due of MESSAGE m: type, from, to, term, number, told term, entries, commit; what is left out is 0. */
    static void message(RaftRegistry x, int m, int... due) {
        for (int what = 0; what < 8; what++) {
            Due.is("message(" + m + ", " + what + ")", what < due.length ? due[what] : 0, x.message(m, what));
        }
    }

    void message(int m, int... due) {
        message(x, m, due);
    }

    /** What is due of NODE n, as far as it is told: up, term, voted, role, base, last, commit, term at last, .. */
    static void node(RaftRegistry x, int n, int... due) {
        for (int what = 0; what < due.length; what++) {
            Due.is("node(" + n + ", " + what + ")", due[what], x.node(n, what));
        }
    }

    void node(int n, int... due) {
        node(x, n, due);
    }
}
