/**
 * The limits that 512 calls can't come to: 1200 ENTRIES and 3000 MESSAGES. Answers are free there, but the machine must
 * never throw by itself.
 */
public final class LimitsTest {
    private static final int[] ODD = {0, 1, -1, 2, 4, 5, 63, 64, 1200, 1201, 2999, 3000, Integer.MAX_VALUE,
        Integer.MIN_VALUE};

    public static void main(String[] args) {
        fullLog();
        fullMail();
        oddNumbersEverywhere();
        Due.end();
    }

    private static Play fullOf(int kind) {
        Play p = new Play().elect(0);
        p.x.more(0, 0, 0, 0);
        for (int i = 2; i <= 1200; i++) {
            Due.is("propose", i, p.x.propose(0, kind, i % 8 + 1, 63));
        }
        return p;
    }

    private static void fullLog() {
        Play p = fullOf(1);
        Due.throwing("LAST is 1200", IllegalStateException.class, () -> p.x.propose(0, 7, 0, 0));
        Due.throwing("LAST is 1200", IllegalStateException.class, () -> p.x.beat(0));
        p.x.crash(0);
        Due.is("start", 1200, p.x.start(0));
        p.elect(0);
        Due.is("leader", 2, p.x.node(0, 3));
        Due.is("no ENTRY comes", 1200, p.x.node(0, 5));
        Due.is("all of it is sent", 1200, p.x.node(4, 5));
        Due.is("no ENTRY of the TERM, so nothing is committed", 0, p.x.node(0, 6));
        Due.is("check", 0, p.x.check());
    }

    private static void fullMail() {
        Play p = new Play().elect(0);
        int due = p.x.messages();
        for (int i = 0; i < 1000; i++) {
            int more = Math.min(4, 3000 - due);
            due += more;
            Due.is("beat", more, p.x.beat(0));
            Due.is("messages", due, p.x.messages());
        }
        Due.is("an answer is lost", 0, p.x.deliver(p.lastMessage()));
        Due.is("an ASK is lost", 0, p.x.expire(3));
        Due.throwing("no MESSAGE", IndexOutOfBoundsException.class, () -> p.x.message(3000, 0));
    }

    private static void oddNumbersEverywhere() {
        Play p = fullOf(5);
        p.deliverAll();
        for (int a : ODD) {
            for (int b : ODD) {
                p.x.more(a, b, b, a);
                for (int c : ODD) {
                    tryAll(p.x, a, b, c);
                }
            }
        }
    }

    private static void tryAll(RaftRegistry x, int a, int b, int c) {
        quiet(() -> x.propose(a, b, c, a));
        quiet(() -> x.expire(a));
        quiet(() -> x.deliver(a));
        quiet(() -> x.beat(a));
        quiet(() -> x.shrink(a));
        quiet(() -> x.crash(a));
        quiet(() -> x.start(a));
        quiet(() -> x.power(a, b));
        quiet(() -> x.result(a, b));
        quiet(() -> x.key(a, b, c));
        quiet(() -> x.past(a, b, c));
        quiet(() -> x.event(a, b, c));
        quiet(() -> x.message(a, b));
        quiet(() -> x.node(a, b));
        quiet(() -> x.entry(a, b));
        quiet(() -> x.digest(a));
    }

    /** What the machine throws by itself are other classes than those that the document names. */
    private static void quiet(Runnable call) {
        Due.is("(called)", 0, 0);
        try {
            call.run();
        } catch (RuntimeException e) {
            Class<?> c = e.getClass();
            if (c != IndexOutOfBoundsException.class && c != IllegalStateException.class
                    && c != IllegalArgumentException.class && c != java.util.NoSuchElementException.class) {
                Due.wrong("the machine threw " + e);
            }
        }
    }
}
