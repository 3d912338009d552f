import java.util.ArrayList;
import java.util.HashMap;
import java.util.List;
import java.util.Map;
import java.util.Random;
import java.util.function.Function;

/** Runs of calls by chance (the same each time), every answer compared with the model's. */
public final class RandomRunsTest {
    private static final int RUNS = 800;
    private static final int CALLS = 512;
    private static final int[] VALUES = {0, 1, 2, 5, 77, -1, -5, Integer.MAX_VALUE, Integer.MIN_VALUE};

    private final Random chance;
    private final RaftRegistry x = new RaftRegistry();
    private final Model model = new Model();
    private final List<String> told = new ArrayList<>();
    private final int seed;
    // Ways of this run: how often what happens.
    private final int crashing;
    private final int electing;
    private final int shrinking;
    private final int losing;
    private final boolean manyEvents;
    private final boolean manySnapshots;
    private final boolean manyCommands;
    private int fresh = 0;
    private int calls = 0;
    private boolean takenOver = false;
    private boolean beyond400 = false;
    private int leaders = 0;
    // Promise 20 seen from outside: who led a TERM, and what THE STORE was at a COMMIT.
    private final Map<Integer, Integer> leaderOf = new HashMap<>();
    private final Map<Integer, Long> digestAt = new HashMap<>();

    private RandomRunsTest(int seed) {
        this.seed = seed;
        chance = new Random(seed);
        manyEvents = seed % 10 == 0;
        manySnapshots = seed % 10 == 1;
        manyCommands = seed % 10 == 2 || seed % 10 == 3;
        boolean quiet = manyEvents || manySnapshots || manyCommands;
        crashing = quiet ? 0 : chance.nextInt(5);
        electing = quiet ? 0 : 1 + chance.nextInt(4);
        shrinking = manyEvents ? 0 : chance.nextInt(6);
        losing = quiet ? 0 : chance.nextInt(40);
    }

    public static void main(String[] args) {
        int[] reached = new int[6];
        for (int seed = 1; seed <= RUNS && Due.wrongCount() == 0; seed++) {
            RandomRunsTest run = new RandomRunsTest(seed);
            run.play();
            run.note(reached);
        }
        reachedEnough(reached);
        Due.end();
    }

    /** A comparison that never came to the rare things would prove nothing about them. */
    private static void reachedEnough(int[] reached) {
        String[] names = {"runs with a commit", "runs with a SNAPSHOT taken over", "runs with events beyond 400",
            "runs with all 60 SNAPSHOTS", "runs with a DENIAL", "runs of three leaders or more"};
        for (int i = 0; i < names.length; i++) {
            System.out.println(reached[i] + " " + names[i]);
            if (reached[i] < 5) {
                Due.wrong("only " + reached[i] + " " + names[i]);
            }
        }
    }

    private void note(int[] reached) {
        int most = 0;
        boolean denied = false;
        for (int n = 0; n < 5; n++) {
            most = Math.max(most, model.nodes[n].image().last());
        }
        for (Model.Message m : model.messages) {
            denied |= m.type == 4;
        }
        reached[0] += most > 20 ? 1 : 0;
        reached[1] += takenOver ? 1 : 0;
        reached[2] += beyond400 ? 1 : 0;
        reached[3] += model.snapshots == 60 ? 1 : 0;
        reached[4] += denied ? 1 : 0;
        reached[5] += leaders > 2 ? 1 : 0;
    }

    private void play() {
        for (int i = 0; calls < CALLS && i < 2 * CALLS && Due.wrongCount() == 0; i++) {
            if (manyEvents || manyCommands) {
                stepToMuchCommitted(i);
            } else if (manySnapshots) {
                stepToManySnapshots(i);
            } else {
                step();
            }
            look();
            lookForHarm();
        }
        if (Due.wrongCount() == 0) {
            lookAtAll();
        }
    }

    private static String answer(Function<Object, Object> call) {
        try {
            return String.valueOf(call.apply(null));
        } catch (RuntimeException e) {
            return "throws." + e.getClass().getSimpleName();
        }
    }

    private void same(String call, Function<Object, Object> ours, Function<Object, Object> models, boolean tell) {
        String got = answer(ours);
        String due = answer(models);
        if (tell) {
            told.add(call + " -> " + got);
            calls++;
        }
        Due.is("(compared)", 0, 0);
        if (!got.equals(due)) {
            if (Due.wrongCount() == 0) {
                told.forEach(System.out::println);
            }
            Due.wrong("seed " + seed + ": " + call + " answered " + got + ", due is " + due);
        }
    }

    private int anyNode() {
        return chance.nextInt(60) == 0 ? VALUES[chance.nextInt(VALUES.length)] * 6 - 1 : chance.nextInt(5);
    }

    private int leaderOrAny() {
        int best = -1;
        for (int n = 0; n < 5; n++) {
            Model.Node m = model.nodes[n];
            if (m.up && m.role == 2 && (best < 0 || m.disk.term > model.nodes[best].disk.term)) {
                best = n;
            }
        }
        return best < 0 || chance.nextInt(12) == 0 ? anyNode() : best;
    }

    private boolean hasLeader() {
        for (Model.Node m : model.nodes) {
            if (m.up && m.role == 2) {
                return true;
            }
        }
        return false;
    }

    private void step() {
        int dice = chance.nextInt(100);
        if (dice < crashing) {
            crashOrPower();
        } else if (dice < crashing * 2 + 1) {
            int n = anyDown();
            same("start(" + n + ")", o -> x.start(n), o -> model.start(n), true);
        } else if (dice < crashing * 2 + 1 + electing || (!hasLeader() && dice < 25 && fresh >= model.messages.size())) {
            int n = anyNode();
            same("expire(" + n + ")", o -> x.expire(n), o -> model.expire(n), true);
        } else if (dice < 16 + shrinking) {
            int n = chance.nextBoolean() ? leaderOrAny() : anyNode();
            same("shrink(" + n + ")", o -> x.shrink(n), o -> model.shrink(n), true);
        } else if (dice < 45) {
            propose();
        } else if (dice < 52) {
            int n = leaderOrAny();
            same("beat(" + n + ")", o -> x.beat(n), o -> model.beat(n), true);
        } else {
            deliver();
        }
    }

    /**
     * Nearly every call goes into commands that NODES 0 to 2 commit. Only so are there more than 400 EVENTS, by puts and
     * removals alone; or much happens in THE STORE, by commands of all kinds.
     */
    private void stepToMuchCommitted(int i) {
        if (i == 0) {
            same("expire(0)", o -> x.expire(0), o -> model.expire(0), true);
        } else if (i < 10 || ((calls > 240 || (manyCommands && chance.nextInt(3) == 0)) && fresh < model.messages.size())) {
            deliverAmong(3);
        } else if (i == 10 || calls > 280 || (calls > 240 && manyEvents)) {
            same("beat(0)", o -> x.beat(0), o -> model.beat(0), true);
        } else if (manyCommands) {
            propose();
        } else {
            int kind = i % 50 == 0 ? 2 : 1;
            int a = kind == 2 ? chance.nextInt(2) : i % 50;
            int b = kind == 2 ? 63 : someValue();
            same("propose(0, " + kind + ", " + a + ", " + b + ")", o -> x.propose(0, kind, a, b),
                    o -> model.propose(0, kind, a, b), true);
        }
    }

    /** NODES 3 and 4 hear nothing for long, so that each beat sends them the leader's SNAPSHOT. */
    private void stepToManySnapshots(int i) {
        if (i == 0) {
            same("expire(0)", o -> x.expire(0), o -> model.expire(0), true);
        } else if (i < 15 || (fresh < model.messages.size() && chance.nextInt(100) < 40)) {
            deliverAmong(calls < 350 ? 3 : 5);
        } else if (chance.nextInt(100) < 20) {
            same("shrink(0)", o -> x.shrink(0), o -> model.shrink(0), true);
        } else if (chance.nextInt(100) < 40) {
            same("beat(0)", o -> x.beat(0), o -> model.beat(0), true);
        } else {
            propose();
        }
    }

    private void deliverAmong(int nodes) {
        while (fresh < model.messages.size()) {
            int m = fresh++;
            if (model.messages.get(m).to < nodes) {
                same("deliver(" + m + ")", o -> x.deliver(m), o -> model.deliver(m), true);
                return;
            }
        }
    }

    private int anyDown() {
        for (int n = 0; n < 5; n++) {
            if (!model.nodes[n].up && chance.nextBoolean()) {
                return n;
            }
        }
        return anyNode();
    }

    private void crashOrPower() {
        int n = chance.nextBoolean() ? leaderOrAny() : anyNode();
        if (chance.nextInt(3) == 0) {
            same("crash(" + n + ")", o -> {
                x.crash(n);
                return 0;
            }, o -> {
                model.crash(n);
                return 0;
            }, true);
            return;
        }
        int k = chance.nextInt(20) == 0 ? chance.nextInt(105) - 2 : chance.nextInt(7) - 1;
        same("power(" + n + ", " + k + ")", o -> {
            x.power(n, k);
            return 0;
        }, o -> {
            model.power(n, k);
            return 0;
        }, true);
    }

    private void deliver() {
        int there = model.messages.size();
        int dice = chance.nextInt(100);
        int m;
        if (fresh < there && dice < 85) {
            // Messages of one call often get lost together, so some are passed over.
            m = fresh++;
            if (chance.nextInt(100) < losing) {
                return;
            }
        } else if (dice < 98 && there > 0) {
            m = chance.nextBoolean() ? chance.nextInt(there) : Math.max(0, there - 1 - chance.nextInt(12));
        } else {
            m = chance.nextBoolean() ? there : -1 - chance.nextInt(3);
        }
        int before = m >= 0 && m < there ? bases() : 0;
        int leading = leading();
        same("deliver(" + m + ")", o -> x.deliver(m), o -> model.deliver(m), true);
        takenOver |= m >= 0 && m < there && bases() != before;
        leaders += leading() > leading ? 1 : 0;
    }

    private int bases() {
        int sum = 0;
        for (Model.Node n : model.nodes) {
            sum += n.image().base;
        }
        return sum;
    }

    private int leading() {
        int sum = 0;
        for (Model.Node n : model.nodes) {
            sum += n.role == 2 ? 1 : 0;
        }
        return sum;
    }

    private int someValue() {
        return VALUES[chance.nextInt(VALUES.length)];
    }

    private int someKey() {
        if (chance.nextInt(60) == 0) {
            return chance.nextBoolean() ? 64 : -1;
        }
        return seed % 3 == 0 ? chance.nextInt(64) : chance.nextInt(6) * 12;
    }

    private int someLease() {
        return chance.nextInt(40) == 0 ? chance.nextInt(2) * 9 : 1 + chance.nextInt(chance.nextBoolean() ? 3 : 8);
    }

    private void propose() {
        int n = leaderOrAny();
        int kind = chance.nextInt(60) == 0 ? chance.nextInt(2) * 9 : 1 + chance.nextInt(8);
        int a;
        int b;
        int c = 0;
        int d = 0;
        int e = 0;
        int f = someValue();
        if (kind == 1) {
            a = someKey();
            b = someValue();
            c = chance.nextInt(3) == 0 ? 0 : someLease();
        } else if (kind == 2) {
            a = someKey();
            b = someKey();
        } else if (kind == 3) {
            a = someKey();
            b = chance.nextInt(30) == 0 ? chance.nextInt(2) * 5 - 1 : chance.nextInt(4);
            c = chance.nextInt(30) == 0 ? chance.nextInt(2) * 4 - 1 : chance.nextInt(3);
            d = chance.nextBoolean() ? someValue() : chance.nextInt(9);
            e = chance.nextBoolean() ? a : someKey();
        } else if (kind == 8) {
            a = model.nodes[0].up ? model.nodes[0].store.revision + chance.nextInt(6) - 4 : 3;
            b = someValue();
        } else {
            a = someLease();
            b = chance.nextInt(6) == 0 ? someValue() : chance.nextInt(6);
        }
        propose(n, kind, a, b, new int[] {c, d, e, f});
    }

    private void propose(int n, int kind, int a, int b, int[] m) {
        x.more(m[0], m[1], m[2], m[3]);
        model.more(m[0], m[1], m[2], m[3]);
        told.add("more(" + m[0] + ", " + m[1] + ", " + m[2] + ", " + m[3] + ")");
        calls++;
        same("propose(" + n + ", " + kind + ", " + a + ", " + b + ")", o -> x.propose(n, kind, a, b),
                o -> model.propose(n, kind, a, b), true);
    }

    private void look() {
        same("messages()", o -> x.messages(), o -> model.messages.size(), false);
        same("check()", o -> x.check(), o -> 0, false);
        int n = anyNode();
        for (int what = -1; what < 15; what++) {
            int w = what;
            same("node(" + n + ", " + w + ")", o -> x.node(n, w), o -> model.node(n, w), false);
        }
        same("digest(" + n + ")", o -> x.digest(n), o -> model.digest(n), false);
        int k = chance.nextInt(50) == 0 ? 64 * chance.nextInt(2) : someKey();
        int what = chance.nextInt(7) - 1;
        same("key(" + n + ", " + k + ", " + what + ")", o -> x.key(n, k, what), o -> model.key(n, k, what), false);
        boolean seen = n >= 0 && n < 5 && model.nodes[n].up;
        int last = n >= 0 && n < 5 ? model.nodes[n].image().last() : 5;
        int index = chance.nextInt(last + 4) - 1;
        same("result(" + n + ", " + index + ")", o -> x.result(n, index), o -> model.result(n, index), false);
        same("entry(" + n + ", " + index + ")", o -> x.entry(n, index), o -> model.entry(n, index), false);
        int least = seen ? model.nodes[n].store.compacted - 2 : -2;
        int most = seen ? model.nodes[n].store.revision + 2 : 3;
        int r = chance.nextInt(30) == 0 ? someValue() : least + chance.nextInt(most - least + 1);
        same("past(" + n + ", " + k + ", " + r + ")", o -> x.past(n, k, r), o -> model.past(n, k, r), false);
        int i = chance.nextInt(20) == 0 ? someValue() : chance.nextInt(8) - 1;
        same("event(" + n + ", " + r + ", " + i + ")", o -> x.event(n, r, i), o -> model.event(n, r, i), false);
        lookAtMessage();
        if (seen) {
            beyond400 |= model.nodes[n].store.compacted > 0 && model.nodes[n].store.events.size() > 390;
        }
    }

    private void lookForHarm() {
        for (int n = 0; n < 5; n++) {
            if (x.node(n, 0) == 0) {
                continue;
            }
            if (x.node(n, 3) == 2 && leaderOf.computeIfAbsent(x.node(n, 1), t -> -1) != n) {
                Due.is("seed " + seed + ": leaders of TERM " + x.node(n, 1), -1, leaderOf.put(x.node(n, 1), n));
            }
            long digest = x.digest(n);
            long known = digestAt.computeIfAbsent(x.node(n, 6), c -> digest);
            Due.is("seed " + seed + ": STORES at COMMIT " + x.node(n, 6), known, digest);
        }
    }

    private void lookAtMessage() {
        int there = model.messages.size();
        int m = chance.nextInt(there + 2) - 1;
        for (int i : new int[] {m, there - 1}) {
            for (int what = -1; what < 9; what++) {
                int w = what;
                same("message(" + i + ", " + w + ")", o -> x.message(i, w), o -> model.message(i, w), false);
            }
        }
    }

    private void lookAtAll() {
        for (int node = 0; node < 5; node++) {
            int n = node;
            for (int what = 0; what < 14; what++) {
                int w = what;
                same("node(" + n + ", " + w + ")", o -> x.node(n, w), o -> model.node(n, w), false);
            }
            for (int index = -1; index < model.nodes[n].image().last() + 3; index++) {
                int i = index;
                same("entry(" + n + ", " + i + ")", o -> x.entry(n, i), o -> model.entry(n, i), false);
                same("result(" + n + ", " + i + ")", o -> x.result(n, i), o -> model.result(n, i), false);
            }
            if (!model.nodes[n].up) {
                continue;
            }
            Model.Store s = model.nodes[n].store;
            for (int k = 0; k < 64; k++) {
                for (int r = s.compacted - 1; r <= s.revision + 1; r += 1 + s.revision / 40) {
                    int key = k;
                    int at = r;
                    same("past(" + n + ", " + k + ", " + r + ")", o -> x.past(n, key, at),
                            o -> model.past(n, key, at), false);
                }
                for (int what = 0; what < 5; what++) {
                    int key = k;
                    int w = what;
                    same("key(" + n + ", " + k + ", " + w + ")", o -> x.key(n, key, w),
                            o -> model.key(n, key, w), false);
                }
            }
        }
    }
}
