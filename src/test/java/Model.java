import java.util.ArrayList;
import java.util.Arrays;
import java.util.HashMap;
import java.util.List;
import java.util.Map;
import java.util.NoSuchElementException;
import java.util.TreeMap;
import java.util.TreeSet;

/**
 * The document once more, written in another way so that a slip in the class is not repeated here: a disk is a journal
 * of records that is played back, a store remembers itself whole at every revision, and nothing is shared.
 */
final class Model {
    static final class Entry {
        final int term;
        final int[] command; // kind, a to f

        Entry(int term, int... command) {
            this.term = term;
            this.command = command;
        }
    }

    static final class Key {
        int value;
        int came;
        int changed;
        int version;
        int lease;

        Key copy() {
            Key k = new Key();
            k.value = value;
            k.came = came;
            k.changed = changed;
            k.version = version;
            k.lease = lease;
            return k;
        }
    }

    static final class Event {
        final int revision;
        final int key;
        final Integer value; // null: removed

        Event(int revision, int key, Integer value) {
            this.revision = revision;
            this.key = key;
            this.value = value;
        }

        long told() {
            if (value == null) {
                return -1L - (64L * revision + key);
            }
            return (1L << 38) * revision + (1L << 32) * key + Integer.toUnsignedLong(value);
        }
    }

    static final class Store {
        int revision = 1;
        int time = 0;
        int compacted = 0;
        TreeMap<Integer, Key> keys = new TreeMap<>();
        TreeMap<Integer, Integer> leases = new TreeMap<>();
        List<Event> events = new ArrayList<>();
        // Values by revision, for past.
        Map<Integer, Map<Integer, Integer>> history = new HashMap<>();

        Store() {
            history.put(0, new HashMap<>());
            remember();
        }

        Store copy() {
            Store s = new Store();
            s.revision = revision;
            s.time = time;
            s.compacted = compacted;
            for (Map.Entry<Integer, Key> e : keys.entrySet()) {
                s.keys.put(e.getKey(), e.getValue().copy());
            }
            s.leases.putAll(leases);
            s.events.addAll(events);
            s.history.putAll(history);
            return s;
        }

        private void remember() {
            Map<Integer, Integer> now = new HashMap<>();
            keys.forEach((k, v) -> now.put(k, v.value));
            history.put(revision, now);
        }

        private void change(TreeMap<Integer, Integer> puts, TreeSet<Integer> removals, int lease) {
            if (puts.isEmpty() && removals.isEmpty()) {
                return;
            }
            revision++;
            for (int k : removals) {
                keys.remove(k);
                events.add(new Event(revision, k, null));
            }
            for (Map.Entry<Integer, Integer> p : puts.entrySet()) {
                Key k = keys.get(p.getKey());
                if (k == null) {
                    k = new Key();
                    k.came = revision;
                    keys.put(p.getKey(), k);
                }
                k.version++;
                k.changed = revision;
                k.value = p.getValue();
                k.lease = lease;
                events.add(new Event(revision, p.getKey(), p.getValue()));
            }
            remember();
        }

        private void put(int k, int v, int lease) {
            TreeMap<Integer, Integer> puts = new TreeMap<>();
            puts.put(k, v);
            change(puts, new TreeSet<>(), lease);
        }

        private int removeAll(TreeSet<Integer> which) {
            change(new TreeMap<>(), which, 0);
            return which.size();
        }

        private int endLease(int l) {
            if (leases.remove(l) == null) {
                return -1;
            }
            TreeSet<Integer> had = new TreeSet<>();
            keys.forEach((k, v) -> {
                if (v.lease == l) {
                    had.add(k);
                }
            });
            return removeAll(had);
        }

        int field(int k, int what) {
            Key key = keys.get(k);
            if (key == null) {
                return 0;
            }
            return new int[] {key.version, key.came, key.changed, key.value, key.lease}[what];
        }

        int apply(int[] x) {
            int result = run(x[0], x[1], x[2], x[3], x[4], x[5], x[6]);
            while (events.size() > 400) {
                compacted = events.get(0).revision;
                events.removeIf(e -> e.revision <= compacted);
            }
            return result;
        }

        private int run(int kind, int a, int b, int c, int d, int e, int f) {
            if (kind == 1) {
                if (c != 0 && !leases.containsKey(c)) {
                    return -1;
                }
                put(a, b, c);
                return revision;
            }
            if (kind == 2) {
                TreeSet<Integer> range = new TreeSet<>();
                for (int k : keys.keySet()) {
                    if (k >= a && k <= b) {
                        range.add(k);
                    }
                }
                return removeAll(range);
            }
            if (kind == 3) {
                int sign = Integer.compare(field(a, b), d);
                if (sign == new int[] {0, -1, 1}[c]) {
                    put(e, f, 0);
                    return 1;
                }
                TreeSet<Integer> one = new TreeSet<>();
                if (keys.containsKey(e)) {
                    one.add(e);
                }
                removeAll(one);
                return 0;
            }
            if (kind == 4) {
                return leases.putIfAbsent(a, time + b) == null ? 1 : 0;
            }
            if (kind == 5) {
                return endLease(a);
            }
            if (kind == 6) {
                return leases.replace(a, time + b) == null ? 0 : 1;
            }
            if (kind == 7) {
                time++;
                for (int l : new TreeSet<>(leases.keySet())) {
                    if (leases.get(l) <= time) {
                        endLease(l);
                    }
                }
                return time;
            }
            if (kind == 8) {
                if (a > compacted && a <= revision) {
                    compacted = a;
                    events.removeIf(x -> x.revision <= compacted);
                    return 1;
                }
                return 0;
            }
            return 0;
        }

        long digest() {
            long h = 7;
            for (Map.Entry<Integer, Key> e : keys.entrySet()) {
                Key k = e.getValue();
                for (long x : new long[] {e.getKey(), k.value, k.version, k.came, k.changed, k.lease}) {
                    h = h * 31 + x;
                }
            }
            for (Event e : events) {
                h = h * 31 + e.told();
            }
            return h * 31 + revision;
        }
    }

    /** One RECORD of a journal: what the disk has after it. */
    interface Rec {
        void play(Image image);
    }

    /** What a disk has: TERM, VOTED, THE LOG, the SNAPSHOT. */
    static final class Image {
        int term = 0;
        int voted = -1;
        int base = 0;
        int baseTerm = 0;
        Store snapshot = new Store();
        List<Entry> log = new ArrayList<>(); // BASE + 1 first

        int last() {
            return base + log.size();
        }

        int termAt(int index) {
            if (index == base) {
                return baseTerm;
            }
            return index < base || index > last() ? -1 : log.get(index - base - 1).term;
        }
    }

    static final class Down extends RuntimeException {
        private static final long serialVersionUID = 1L;
    }

    static final class Node {
        List<Rec> journal = new ArrayList<>();
        Image disk = new Image();
        int power = -1;
        boolean up = true;
        int role = 0;
        TreeSet<Integer> votes = new TreeSet<>();
        int commit = 0;
        Store store = new Store();
        int[] next = new int[5];
        int[] match = new int[5];
        TreeMap<Integer, Integer> results = new TreeMap<>();

        void write(Rec r) {
            if (power == 0) {
                throw new Down();
            }
            if (power > 0) {
                power--;
            }
            journal.add(r);
            r.play(disk);
        }

        void writeVote(int term, int voted) {
            write(d -> {
                d.term = term;
                d.voted = voted;
            });
        }

        void writeEntry(int index, Entry e) {
            write(d -> {
                d.log = new ArrayList<>(d.log.subList(0, index - d.base - 1));
                d.log.add(e);
            });
        }

        void writeSnapshot(Store s, int base, int term) {
            Store kept = s.copy();
            write(d -> {
                boolean has = d.termAt(base) == term;
                List<Entry> behind = new ArrayList<>();
                for (int i = base + 1; has && i <= d.last(); i++) {
                    behind.add(d.log.get(i - d.base - 1));
                }
                d.log = behind;
                d.base = base;
                d.baseTerm = term;
                d.snapshot = kept;
            });
        }

        void down() {
            up = false;
            power = -1;
            role = 0;
            votes = new TreeSet<>();
            store = null;
            results = new TreeMap<>();
            disk = null;
        }

        /** The disk as the journal tells it: what was not written can't come back. */
        Image played() {
            Image image = new Image();
            for (Rec r : journal) {
                r.play(image);
            }
            return image;
        }

        Image image() {
            return up ? disk : played();
        }

        void start() {
            disk = played();
            up = true;
            commit = disk.base;
            store = disk.snapshot.copy();
        }
    }

    static final class Message {
        int type;
        int from;
        int to;
        int term;
        int number;
        int told;
        int commit;
        List<Entry> entries = new ArrayList<>();
        Store store;
    }

    final Node[] nodes = new Node[5];
    final List<Message> messages = new ArrayList<>();
    int snapshots = 0;
    int[] more = new int[4];

    Model() {
        for (int n = 0; n < 5; n++) {
            nodes[n] = new Node();
        }
    }

    private Node at(int n) {
        if (n < 0 || n > 4) {
            throw new IndexOutOfBoundsException();
        }
        return nodes[n];
    }

    private Node upAt(int n) {
        Node x = at(n);
        if (!x.up) {
            throw new IllegalStateException();
        }
        return x;
    }

    private Message send(int type, int from, int to, int number, int told) {
        Message m = new Message();
        m.type = type;
        m.from = from;
        m.to = to;
        m.term = nodes[from].disk.term;
        m.number = number;
        m.told = told;
        if (messages.size() == 3000 || (type == 5 && snapshots == 60)) {
            return m;
        }
        if (type == 5) {
            snapshots++;
        }
        messages.add(m);
        return m;
    }

    private void sendEntries(int from, int to) {
        Node x = nodes[from];
        int previous = x.next[to] - 1;
        if (previous < x.disk.base) {
            send(5, from, to, x.disk.base, x.disk.baseTerm).store = x.disk.snapshot.copy();
            return;
        }
        Message m = send(2, from, to, previous, x.disk.termAt(previous));
        m.commit = x.commit;
        for (int i = previous + 1; i <= x.disk.last() && i <= previous + 4; i++) {
            m.entries.add(x.disk.log.get(i - x.disk.base - 1));
        }
    }

    private void sendEntriesToAll(int from) {
        for (int n = 0; n < 5; n++) {
            if (n != from) {
                sendEntries(from, n);
            }
        }
    }

    /** Does it, unless the power fails; how many messages came. */
    private int doing(int n, Runnable what) {
        int before = messages.size();
        try {
            what.run();
        } catch (Down e) {
            nodes[n].down();
        }
        return messages.size() - before;
    }

    int expire(int n) {
        Node x = upAt(n);
        if (x.role == 2) {
            throw new IllegalStateException();
        }
        return doing(n, () -> {
            x.writeVote(x.disk.term + 1, n);
            x.role = 1;
            x.votes = new TreeSet<>(Arrays.asList(n));
            for (int to = 0; to < 5; to++) {
                if (to != n) {
                    send(0, n, to, x.disk.last(), x.disk.termAt(x.disk.last()));
                }
            }
        });
    }

    int deliver(int i) {
        if (i < 0 || i >= messages.size()) {
            throw new IndexOutOfBoundsException();
        }
        Message m = messages.get(i);
        if (!nodes[m.to].up) {
            return 0;
        }
        return doing(m.to, () -> take(nodes[m.to], m));
    }

    private void take(Node x, Message m) {
        Image d = x.disk;
        if (m.term > d.term) {
            x.writeVote(m.term, -1);
            x.role = 0;
        }
        if (m.term < d.term) {
            if (m.type == 0) {
                send(1, m.to, m.from, 0, 0);
            } else if (m.type == 2 || m.type == 5) {
                send(4, m.to, m.from, d.last(), 0);
            }
            return;
        }
        if (m.type == 0) {
            ask(x, m);
        } else if (m.type == 1) {
            vote(x, m);
        } else if (m.type == 2) {
            append(x, m);
        } else if (m.type == 3) {
            accept(x, m);
        } else if (m.type == 4) {
            denial(x, m);
        } else {
            snapshot(x, m);
        }
    }

    private void ask(Node x, Message m) {
        int own = x.disk.termAt(x.disk.last());
        boolean yes = (x.disk.voted == -1 || x.disk.voted == m.from)
                && (m.told > own || (m.told == own && m.number >= x.disk.last()));
        if (yes && x.disk.voted != m.from) {
            x.writeVote(x.disk.term, m.from);
        }
        send(1, m.to, m.from, yes ? 1 : 0, 0);
    }

    private void vote(Node x, Message m) {
        if (x.role != 1 || m.number == 0) {
            return;
        }
        x.votes.add(m.from);
        if (x.votes.size() < 3) {
            return;
        }
        x.role = 2;
        Arrays.fill(x.next, x.disk.last() + 1);
        Arrays.fill(x.match, 0);
        if (x.disk.last() < 1200) {
            x.writeEntry(x.disk.last() + 1, new Entry(x.disk.term, 0, 0, 0, 0, 0, 0, 0));
        }
        sendEntriesToAll(m.to);
    }

    private void append(Node x, Message m) {
        x.role = 0;
        Image d = x.disk;
        int previous = m.number;
        int told = m.told;
        int passed = 0;
        while (passed < m.entries.size() && previous < d.base) {
            told = m.entries.get(passed).term;
            previous++;
            passed++;
        }
        if (previous < d.base) {
            previous = d.base;
            told = d.baseTerm;
        }
        if (previous > d.last()) {
            send(4, m.to, m.from, d.last(), 0);
            return;
        }
        if (d.termAt(previous) != told) {
            send(4, m.to, m.from, previous - 1, 0);
            return;
        }
        int index = previous;
        for (Entry e : m.entries.subList(passed, m.entries.size())) {
            index++;
            if (d.termAt(index) != e.term) {
                x.writeEntry(index, e);
            }
        }
        commitTo(x, Math.min(m.commit, index));
        send(3, m.to, m.from, index, 0);
    }

    private void commitTo(Node x, int to) {
        while (x.commit < to) {
            x.commit++;
            x.results.put(x.commit, x.store.apply(x.disk.log.get(x.commit - x.disk.base - 1).command));
        }
    }

    private void accept(Node x, Message m) {
        if (x.role != 2) {
            return;
        }
        if (x.match[m.from] < m.number) {
            x.match[m.from] = m.number;
            x.next[m.from] = m.number + 1;
        }
        int found = x.commit;
        for (int i = x.commit + 1; i <= x.disk.last(); i++) {
            int reached = 0;
            for (int n = 0; n < 5; n++) {
                if (n != m.to && x.match[n] >= i) {
                    reached++;
                }
            }
            if (reached >= 2 && x.disk.termAt(i) == x.disk.term) {
                found = i;
            }
        }
        commitTo(x, found);
        if (x.next[m.from] <= x.disk.last()) {
            sendEntries(m.to, m.from);
        }
    }

    private void denial(Node x, Message m) {
        if (x.role != 2) {
            return;
        }
        if (x.next[m.from] > m.number + 1) {
            x.next[m.from] = Math.max(m.number + 1, x.match[m.from] + 1);
        }
        sendEntries(m.to, m.from);
    }

    private void snapshot(Node x, Message m) {
        x.role = 0;
        if (x.commit >= m.number) {
            send(3, m.to, m.from, x.commit, 0);
            return;
        }
        x.writeSnapshot(m.store, m.number, m.told);
        x.commit = m.number;
        x.store = m.store.copy();
        x.results = new TreeMap<>();
        send(3, m.to, m.from, m.number, 0);
    }

    void more(int c, int d, int e, int f) {
        more = new int[] {c, d, e, f};
    }

    private static boolean in(int x, int least, int most) {
        return x >= least && x <= most;
    }

    int propose(int n, int kind, int a, int b) {
        Node x = at(n);
        int c = more[0];
        int e = more[2];
        boolean bad = !in(kind, 1, 8)
                || (in(kind, 1, 3) && !in(a, 0, 63))
                || (kind == 2 && !in(b, 0, 63))
                || (kind == 3 && !in(e, 0, 63))
                || (in(kind, 4, 6) && !in(a, 1, 8))
                || (kind == 1 && !in(c, 0, 8))
                || (kind == 3 && (!in(b, 0, 3) || !in(c, 0, 2)));
        if (bad) {
            throw new IllegalArgumentException();
        }
        if (!x.up || x.role != 2 || x.disk.last() == 1200) {
            throw new IllegalStateException();
        }
        doing(n, () -> x.writeEntry(x.disk.last() + 1, new Entry(x.disk.term, kind, a, b, c, more[1], e, more[3])));
        return x.up ? x.disk.last() : 0;
    }

    int beat(int n) {
        Node x = upAt(n);
        if (x.role != 2) {
            throw new IllegalStateException();
        }
        return doing(n, () -> sendEntriesToAll(n));
    }

    int shrink(int n) {
        Node x = upAt(n);
        if (x.commit == x.disk.base) {
            throw new IllegalStateException();
        }
        int before = x.disk.base;
        doing(n, () -> x.writeSnapshot(x.store, x.commit, x.disk.termAt(x.commit)));
        return x.up ? x.commit : before;
    }

    void crash(int n) {
        upAt(n).down();
    }

    int start(int n) {
        Node x = at(n);
        if (x.up) {
            throw new IllegalStateException();
        }
        x.start();
        return x.disk.last();
    }

    void power(int n, int k) {
        Node x = at(n);
        if (!in(k, -1, 100)) {
            throw new IllegalArgumentException();
        }
        x.power = k;
    }

    int result(int n, int index) {
        Node x = at(n);
        if (!x.results.containsKey(index)) {
            throw new NoSuchElementException();
        }
        return x.results.get(index);
    }

    private Store storeWithKey(int n, int k) {
        at(n);
        if (!in(k, 0, 63)) {
            throw new IndexOutOfBoundsException();
        }
        return upAt(n).store;
    }

    int key(int n, int k, int what) {
        Store s = storeWithKey(n, k);
        if (!in(what, 0, 4)) {
            throw new IllegalArgumentException();
        }
        return s.field(k, what);
    }

    int past(int n, int k, int r) {
        Store s = storeWithKey(n, k);
        if (!in(r, s.compacted, s.revision)) {
            throw new IllegalArgumentException();
        }
        Integer v = s.history.get(r).get(k);
        if (v == null) {
            throw new NoSuchElementException();
        }
        return v;
    }

    long event(int n, int r, int i) {
        Store s = upAt(n).store;
        if (r <= s.compacted) {
            throw new IllegalArgumentException();
        }
        int left = i;
        for (Event e : s.events) {
            if (e.revision >= r && left-- == 0) {
                return e.told();
            }
        }
        throw new IndexOutOfBoundsException();
    }

    int message(int i, int what) {
        if (i < 0 || i >= messages.size()) {
            throw new IndexOutOfBoundsException();
        }
        if (!in(what, 0, 7)) {
            throw new IllegalArgumentException();
        }
        Message m = messages.get(i);
        return new int[] {m.type, m.from, m.to, m.term, m.number, m.told, m.entries.size(), m.commit}[what];
    }

    int node(int n, int what) {
        Node x = at(n);
        if (!in(what, 0, 13)) {
            throw new IllegalArgumentException();
        }
        Image d = x.image();
        if (what < 8) {
            return new int[] {x.up ? 1 : 0, d.term, d.voted, x.up ? x.role : 0, d.base, d.last(),
                x.up ? x.commit : d.base, d.termAt(d.last())}[what];
        }
        if (!x.up) {
            return 0;
        }
        int bits = 0;
        for (int l : x.store.leases.keySet()) {
            bits += 1 << (l - 1);
        }
        Store s = x.store;
        return new int[] {s.revision, s.time, s.compacted, s.keys.size(), bits, s.events.size()}[what - 8];
    }

    int entry(int n, int index) {
        return at(n).image().termAt(index);
    }

    long digest(int n) {
        return upAt(n).store.digest();
    }
}
