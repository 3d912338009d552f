import java.util.ArrayList;
import java.util.List;

/**
 * All that can be seen of a run's object, as one text, and what the object does if it is used further. Looking takes
 * calls too, so each part of it plays the run on an object of its own, that stays within its 512 calls.
 */
final class Look {
    private static final int NODES = 5;
    private static final int FURTHER = 50;

    private Look() {
    }

    static RaftRegistry played(List<Run.Call> script) {
        RaftRegistry x = new RaftRegistry();
        for (Run.Call c : script) {
            answer(x, c);
        }
        return x;
    }

    /** What there is behind the script, with so many calls left for each object that plays it. */
    static String at(List<Run.Call> script, int room) {
        RaftRegistry x = played(script);
        int messages = x.messages();
        int last = 0;
        for (int n = 0; n < NODES; n++) {
            last = Math.max(last, x.node(n, 5));
        }
        StringBuilder seen = new StringBuilder();
        List<Run.Call> all = state();
        addLogs(all, last);
        addMessages(all, messages);
        for (int from = 0; room > 0 && from < all.size(); from += room) {
            further(script, all.subList(from, all.size()), room, seen);
        }
        further(script, goingOn(messages), room, seen);
        further(script, electing(messages), room, seen);
        further(script, restarting(messages), room, seen);
        return seen.toString();
    }

    private static String answer(RaftRegistry x, Run.Call c) {
        try {
            return c.on(x) + " ";
        } catch (RuntimeException e) {
            return "throws." + e.getClass().getSimpleName() + " ";
        }
    }

    private static void further(List<Run.Call> script, List<Run.Call> calls, int room, StringBuilder seen) {
        RaftRegistry x = played(script);
        for (int i = 0; i < room && i < calls.size(); i++) {
            seen.append(answer(x, calls.get(i)));
        }
        seen.append('\n');
    }

    private static List<Run.Call> state() {
        List<Run.Call> calls = new ArrayList<>();
        calls.add(RaftRegistry::messages);
        calls.add(RaftRegistry::check);
        for (int i = 0; i < NODES; i++) {
            int n = i;
            for (int j = 0; j < 14; j++) {
                int what = j;
                calls.add(x -> x.node(n, what));
            }
            calls.add(x -> x.digest(n));
        }
        return calls;
    }

    private static void addLogs(List<Run.Call> calls, int last) {
        for (int i = 0; i < NODES; i++) {
            int n = i;
            for (int j = 0; j <= last + 1; j++) {
                int index = j;
                calls.add(x -> x.entry(n, index));
                calls.add(x -> x.result(n, index));
            }
        }
    }

    private static void addMessages(List<Run.Call> calls, int messages) {
        for (int i = 0; i < messages; i++) {
            int m = i;
            for (int j = 0; j < 8; j++) {
                int what = j;
                calls.add(x -> x.message(m, what));
            }
        }
    }

    private static void addDeliveries(List<Run.Call> calls, int from) {
        for (int i = from; i < from + FURTHER; i++) {
            int m = i;
            calls.add(x -> x.deliver(m));
        }
        calls.addAll(state());
    }

    /** Whoever leads does so further: this shows what more told, NEXT and MATCH, ENDS of LEASES. */
    private static List<Run.Call> goingOn(int messages) {
        List<Run.Call> calls = new ArrayList<>();
        for (int i = 0; i < NODES; i++) {
            int n = i;
            calls.add(x -> x.propose(n, 1, 2, 7));
            calls.add(x -> x.propose(n, 3, 1, 0));
            calls.add(x -> x.propose(n, 7, 0, 0));
            calls.add(x -> x.beat(n));
        }
        addDeliveries(calls, messages);
        return calls;
    }

    /** Every NODE writes three RECORDS, if its power lasts, and VOTES that were under way come. */
    private static List<Run.Call> electing(int messages) {
        List<Run.Call> calls = new ArrayList<>();
        for (int m = 0; m < Math.min(messages, FURTHER); m++) {
            int old = m;
            calls.add(x -> x.deliver(old));
        }
        for (int i = 0; i < 3 * NODES; i++) {
            int n = i % NODES;
            calls.add(x -> x.expire(n));
        }
        addDeliveries(calls, messages);
        return calls;
    }

    /** Only what is on the disks is left. */
    private static List<Run.Call> restarting(int messages) {
        List<Run.Call> calls = new ArrayList<>();
        for (int i = 0; i < NODES; i++) {
            int n = i;
            calls.add(x -> {
                x.crash(n);
                return 0;
            });
            calls.add(x -> x.start(n));
        }
        calls.addAll(state());
        calls.add(x -> x.expire(1));
        addDeliveries(calls, messages);
        return calls;
    }
}
