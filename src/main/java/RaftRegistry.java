import java.util.NoSuchElementException;

/**
 * A store of keys with revisions, replicated by Raft among five nodes that live in this object.
 * Words in capitals in comments are the document's terms.
 */
public final class RaftRegistry {
    private static final int NODES = 5;
    private static final int MAJORITY = 3;
    private static final int NONE = -1;
    private static final int NEVER = -1;

    private static final int KEYS = 64;
    private static final int LEASES = 8;
    private static final int MAX_EVENTS = 400;
    // One COMMAND has at most one EVENT for each KEY before old ones are forgotten.
    private static final int EVENT_ROOM = MAX_EVENTS + KEYS;

    private static final int MAX_LAST = 1200;
    private static final int MAX_MESSAGES = 3000;
    private static final int MAX_SNAPSHOTS = 60;
    private static final int MAX_SENT_ENTRIES = 4;
    private static final int MAX_POWER = 100;
    // Each expire raises a TERM by one, so 512 calls stay far below this.
    private static final int WATCHED_TERMS = 1024;

    private static final int FOLLOWER = 0;
    private static final int CANDIDATE = 1;
    private static final int LEADER = 2;

    private static final int ASK = 0;
    private static final int VOTE = 1;
    private static final int APPEND = 2;
    private static final int ACCEPT = 3;
    private static final int DENIAL = 4;
    private static final int SNAPSHOT = 5;

    private static final int NOTHING = 0;
    private static final int PUT = 1;
    private static final int REMOVE = 2;
    private static final int COMPARE = 3;
    private static final int GRANT = 4;
    private static final int REVOKE = 5;
    private static final int RENEW = 6;
    private static final int TICK = 7;
    private static final int COMPACT = 8;

    private static final int KEY_VERSION = 0;
    private static final int KEY_CAME = 1;
    private static final int KEY_CHANGED = 2;
    private static final int KEY_VALUE = 3;
    private static final int KEY_LEASE = 4;

    private static final int MESSAGE_FIELDS = 8;
    private static final int NODE_FIELDS = 14;
    private static final int FIRST_STORE_FIELD = 8;

    private final Node[] nodes;
    private final Mail mail;
    private final Witness witness;
    private int moreC;
    private int moreD;
    private int moreE;
    private int moreF;

    public RaftRegistry() {
        Mail sharedMail = new Mail();
        Witness sharedWitness = new Witness();
        Snapshot empty = new Snapshot(new Store(), 0, 0);
        nodes = new Node[NODES];
        for (int n = 0; n < NODES; n++) {
            nodes[n] = new Node(n, sharedMail, sharedWitness, empty);
        }
        mail = sharedMail;
        witness = sharedWitness;
    }

    public int expire(int n) throws IndexOutOfBoundsException, IllegalStateException {
        Node node = nodeAt(n);
        if (!node.up || node.role == LEADER) {
            throw new IllegalStateException("the NODE is down or leader");
        }
        int before = mail.count;
        node.standForElection();
        return mail.count - before;
    }

    public int deliver(int m) throws IndexOutOfBoundsException {
        Message sent = messageAt(m);
        Node receiver = nodeAt(sent.to);
        int before = mail.count;
        receiver.receive(sent);
        return mail.count - before;
    }

    public void more(int c, int d, int e, int f) {
        moreC = c;
        moreD = d;
        moreE = e;
        moreF = f;
    }

    public int propose(int n, int kind, int a, int b)
            throws IndexOutOfBoundsException, IllegalArgumentException, IllegalStateException {
        Node node = nodeAt(n);
        Command command = new Command(kind, a, b, moreC, moreD, moreE, moreF);
        if (!command.isLegal()) {
            throw new IllegalArgumentException("no such COMMAND");
        }
        requireWorkingLeader(node);
        return node.lengthenLog(command) ? node.disk.last : 0;
    }

    public int beat(int n) throws IndexOutOfBoundsException, IllegalStateException {
        Node node = nodeAt(n);
        requireWorkingLeader(node);
        int before = mail.count;
        node.sendToAll();
        return mail.count - before;
    }

    public int shrink(int n) throws IndexOutOfBoundsException, IllegalStateException {
        Node node = nodeAt(n);
        requireUp(node);
        if (node.commit == node.disk.snapshot.base) {
            throw new IllegalStateException("COMMIT is BASE");
        }
        node.takeSnapshot();
        return node.disk.snapshot.base;
    }

    public void crash(int n) throws IndexOutOfBoundsException, IllegalStateException {
        Node node = nodeAt(n);
        requireUp(node);
        node.goDown();
    }

    public int start(int n) throws IndexOutOfBoundsException, IllegalStateException {
        Node node = nodeAt(n);
        if (node.up) {
            throw new IllegalStateException("the NODE is up");
        }
        node.comeUp();
        return node.disk.last;
    }

    public void power(int n, int k) throws IndexOutOfBoundsException, IllegalArgumentException {
        Node node = nodeAt(n);
        if (k < NEVER || k > MAX_POWER) {
            throw new IllegalArgumentException("k is not -1 to 100");
        }
        node.disk.recordsLeft = k;
    }

    public int result(int n, int index) throws IndexOutOfBoundsException, NoSuchElementException {
        Node node = nodeAt(n);
        if (!node.knowsResult(index)) {
            throw new NoSuchElementException("that ENTRY was not applied here");
        }
        return node.results[index];
    }

    public int key(int n, int k, int what)
            throws IndexOutOfBoundsException, IllegalStateException, IllegalArgumentException {
        Store store = storeWithKey(n, k);
        if (what < KEY_VERSION || what > KEY_LEASE) {
            throw new IllegalArgumentException("what is not 0 to 4");
        }
        return store.keyField(k, what);
    }

    public int past(int n, int k, int r) throws IndexOutOfBoundsException, IllegalStateException,
            IllegalArgumentException, NoSuchElementException {
        Store store = storeWithKey(n, k);
        if (r < store.compacted || r > store.revision) {
            throw new IllegalArgumentException("r is below COMPACTED or above REVISION");
        }
        int latest = store.latestEventOfKey(k, r);
        if (!store.wasThere(k, latest)) {
            throw new NoSuchElementException("the KEY was not there");
        }
        return store.valueThen(k, latest);
    }

    public long event(int n, int r, int i)
            throws IndexOutOfBoundsException, IllegalStateException, IllegalArgumentException {
        Node node = nodeAt(n);
        requireUp(node);
        Store store = node.store;
        if (r <= store.compacted) {
            throw new IllegalArgumentException("r is not above COMPACTED");
        }
        int first = store.firstEventFrom(r);
        if (i < 0 || i >= store.eventCount - first) {
            throw new IndexOutOfBoundsException("no such EVENT");
        }
        return store.events[first + i];
    }

    public int message(int m, int what) throws IndexOutOfBoundsException, IllegalArgumentException {
        Message sent = messageAt(m);
        if (what < 0 || what >= MESSAGE_FIELDS) {
            throw new IllegalArgumentException("what is not 0 to 7");
        }
        return sent.field(what);
    }

    public int node(int n, int what) throws IndexOutOfBoundsException, IllegalArgumentException {
        Node node = nodeAt(n);
        if (what < 0 || what >= NODE_FIELDS) {
            throw new IllegalArgumentException("what is not 0 to 13");
        }
        if (what < FIRST_STORE_FIELD) {
            return node.field(what);
        }
        return node.up ? node.store.field(what) : 0;
    }

    public int entry(int n, int index) throws IndexOutOfBoundsException {
        return nodeAt(n).disk.termAt(index);
    }

    public long digest(int n) throws IndexOutOfBoundsException, IllegalStateException {
        Node node = nodeAt(n);
        requireUp(node);
        return node.store.fingerprint();
    }

    public int messages() {
        return mail.count;
    }

    public int check() {
        return witness.wrong;
    }

    private Node nodeAt(int n) {
        if (n < 0 || n >= nodes.length) {
            throw new IndexOutOfBoundsException("no such NODE");
        }
        return nodes[n];
    }

    private Message messageAt(int m) {
        if (m < 0 || m >= mail.count) {
            throw new IndexOutOfBoundsException("no such MESSAGE");
        }
        return mail.sent[m];
    }

    private Store storeWithKey(int n, int k) {
        Node node = nodeAt(n);
        if (!isKey(k)) {
            throw new IndexOutOfBoundsException("no such KEY");
        }
        requireUp(node);
        return node.store;
    }

    private static void requireUp(Node node) {
        if (!node.up) {
            throw new IllegalStateException("the NODE is down");
        }
    }

    private static void requireWorkingLeader(Node node) {
        if (!node.up || node.role != LEADER || node.disk.last >= MAX_LAST) {
            throw new IllegalStateException("the NODE is down, no leader, or its LOG is full");
        }
    }

    private static boolean isKey(int k) {
        return k >= 0 && k < KEYS;
    }

    private static boolean isLease(int l) {
        return l >= 1 && l <= LEASES;
    }

    private static boolean isNode(int n) {
        return n >= 0 && n < NODES;
    }

    /** What an ENTRY asks of THE STORE. */
    private static final class Command {
        final int kind;
        final int a;
        final int b;
        final int c;
        final int d;
        final int e;
        final int f;

        Command(int kind, int a, int b, int c, int d, int e, int f) {
            this.kind = kind;
            this.a = a;
            this.b = b;
            this.c = c;
            this.d = d;
            this.e = e;
            this.f = f;
        }

        boolean isLegal() {
            switch (kind) {
                case PUT:
                    return isKey(a) && (c == 0 || isLease(c));
                case REMOVE:
                    return isKey(a) && isKey(b);
                case COMPARE:
                    return isKey(a) && isKey(e) && b >= KEY_VERSION && b <= KEY_VALUE && c >= 0 && c <= 2;
                case GRANT:
                case REVOKE:
                case RENEW:
                    return isLease(a);
                case TICK:
                case COMPACT:
                    return true;
                default:
                    return false;
            }
        }

        boolean isLike(Command other) {
            return kind == other.kind && a == other.a && b == other.b && c == other.c
                    && d == other.d && e == other.e && f == other.f;
        }
    }

    /** An ENTRY never changes, so LOGS and MESSAGES share it. */
    private static final class Entry {
        final int term;
        final Command command;

        Entry(int term, Command command) {
            this.term = term;
            this.command = command;
        }

        boolean isLike(Entry other) {
            return term == other.term && command.isLike(other.command);
        }
    }

    /** A SNAPSHOT never changes, so disks and MESSAGES share it. */
    private static final class Snapshot {
        final Store store;
        final int base;
        final int term;

        Snapshot(Store store, int base, int term) {
            this.store = store;
            this.base = base;
            this.term = term;
        }
    }

    private static final class Message {
        final int type;
        final int from;
        final int to;
        final int term;
        // LAST, PREVIOUS, INDEX, BASE, or 1 for a VOTE yes.
        final int number;
        final int toldTerm;
        // Of an APPEND alone.
        Entry[] entries;
        int commit;
        // Of a SNAPSHOT alone.
        Snapshot snapshot;

        Message(int type, int from, int to, int term, int number, int toldTerm) {
            this.type = type;
            this.from = from;
            this.to = to;
            this.term = term;
            this.number = number;
            this.toldTerm = toldTerm;
        }

        int entryCount() {
            return entries == null ? 0 : entries.length;
        }

        int field(int what) {
            switch (what) {
                case 0:
                    return type;
                case 1:
                    return from;
                case 2:
                    return to;
                case 3:
                    return term;
                case 4:
                    return number;
                case 5:
                    return toldTerm;
                case 6:
                    return entryCount();
                default:
                    return commit;
            }
        }
    }

    /** All MESSAGES that were sent, by number. */
    private static final class Mail {
        final Message[] sent = new Message[MAX_MESSAGES];
        int count;
        private int snapshotCount;

        void send(Message m) {
            if (count >= sent.length || (m.type == SNAPSHOT && snapshotCount >= MAX_SNAPSHOTS)) {
                return;
            }
            if (m.type == SNAPSHOT) {
                snapshotCount++;
            }
            sent[count] = m;
            count++;
        }
    }

    /** Counts breaches of what Raft keeps; the nodes never read it. */
    private static final class Witness {
        // By TERM: 0, or one more than the NODE that was leader.
        private final int[] leaders = new int[WATCHED_TERMS];
        private final Entry[] applied = new Entry[MAX_LAST + 1];
        int wrong;

        void seeLeader(int term, int node) {
            if (term < 0 || term >= leaders.length) {
                return;
            }
            if (leaders[term] != 0 && leaders[term] != node + 1) {
                wrong++;
            }
            leaders[term] = node + 1;
        }

        void seeApplied(int index, Entry entry) {
            if (index < 0 || index >= applied.length) {
                return;
            }
            Entry earlier = applied[index];
            if (earlier == null) {
                applied[index] = entry;
            } else if (!earlier.isLike(entry)) {
                wrong++;
            }
        }
    }

    /** What a NODE keeps when it goes down. Each record method writes one RECORD, or nothing if the power fails. */
    private static final class Disk {
        int term;
        int voted = NONE;
        int last;
        Snapshot snapshot;
        // How many RECORDS are written before the power fails.
        int recordsLeft = NEVER;
        // By INDEX; what is not above BASE or above LAST is left over and means nothing.
        private final Entry[] entries = new Entry[MAX_LAST + 1];

        Disk(Snapshot snapshot) {
            this.snapshot = snapshot;
        }

        boolean recordVote(int newTerm, int newVoted) {
            if (powerFails()) {
                return false;
            }
            term = newTerm;
            voted = newVoted;
            return true;
        }

        boolean recordEntry(int index, Entry entry) {
            if (index < 1 || index >= entries.length || powerFails()) {
                return false;
            }
            entries[index] = entry;
            last = index;
            return true;
        }

        boolean recordSnapshot(Snapshot newer) {
            if (powerFails()) {
                return false;
            }
            // Without the same ENTRY at the new BASE, what stands behind it belongs to another history.
            if (termAt(newer.base) != newer.term) {
                last = newer.base;
            }
            snapshot = newer;
            return true;
        }

        private boolean powerFails() {
            if (recordsLeft == 0) {
                return true;
            }
            if (recordsLeft > 0) {
                recordsLeft--;
            }
            return false;
        }

        Entry entryAt(int index) {
            if (index <= snapshot.base || index > last || index >= entries.length) {
                return null;
            }
            return entries[index];
        }

        int termAt(int index) {
            if (index == snapshot.base) {
                return snapshot.term;
            }
            Entry entry = entryAt(index);
            return entry == null ? -1 : entry.term;
        }

        Entry[] entriesBehind(int previous) {
            int length = Math.max(0, Math.min(MAX_SENT_ENTRIES, last - previous));
            Entry[] behind = new Entry[length];
            for (int i = 0; i < length; i++) {
                behind[i] = entryAt(previous + 1 + i);
            }
            return behind;
        }
    }

    private static final class Node {
        final Disk disk;
        final Store store = new Store();
        final int[] results = new int[MAX_LAST + 1];
        boolean up = true;
        int role = FOLLOWER;
        int commit;
        private final int number;
        private final Mail mail;
        private final Witness witness;
        // Bit n is the VOTE of NODE n.
        private int votes;
        private int applied;
        // RESULTS are known behind this INDEX, where THE STORE came from a SNAPSHOT.
        private int storeFrom;
        private final int[] next = new int[NODES];
        private final int[] match = new int[NODES];

        Node(int number, Mail mail, Witness witness, Snapshot empty) {
            this.number = number;
            this.mail = mail;
            this.witness = witness;
            disk = new Disk(empty);
        }

        void standForElection() {
            if (!survives(disk.recordVote(disk.term + 1, number))) {
                return;
            }
            role = CANDIDATE;
            votes = 1 << number;
            int lastTerm = disk.termAt(disk.last);
            for (int n = 0; n < NODES; n++) {
                if (n != number) {
                    mail.send(new Message(ASK, number, n, disk.term, disk.last, lastTerm));
                }
            }
        }

        void receive(Message m) {
            if (!up || !isNode(m.from)) {
                return;
            }
            if (m.term > disk.term) {
                if (!survives(disk.recordVote(m.term, NONE))) {
                    return;
                }
                role = FOLLOWER;
            }
            if (m.term < disk.term) {
                answerOutdated(m);
                return;
            }
            switch (m.type) {
                case ASK:
                    handleAsk(m);
                    break;
                case VOTE:
                    handleVote(m);
                    break;
                case APPEND:
                    handleAppend(m);
                    break;
                case ACCEPT:
                    handleAccept(m);
                    break;
                case DENIAL:
                    handleDenial(m);
                    break;
                case SNAPSHOT:
                    handleSnapshot(m);
                    break;
                default:
                    break;
            }
            applyCommitted();
        }

        private void answerOutdated(Message m) {
            if (m.type == ASK) {
                reply(m, VOTE, 0);
            } else if (m.type == APPEND || m.type == SNAPSHOT) {
                reply(m, DENIAL, disk.last);
            }
        }

        private void handleAsk(Message m) {
            int ownTerm = disk.termAt(disk.last);
            boolean free = disk.voted == NONE || disk.voted == m.from;
            boolean notBehind = m.toldTerm > ownTerm || (m.toldTerm == ownTerm && m.number >= disk.last);
            if (!free || !notBehind) {
                reply(m, VOTE, 0);
                return;
            }
            if (disk.voted != m.from && !survives(disk.recordVote(disk.term, m.from))) {
                return;
            }
            reply(m, VOTE, 1);
        }

        private void handleVote(Message m) {
            if (role != CANDIDATE || m.number != 1) {
                return;
            }
            votes |= 1 << m.from;
            if (Integer.bitCount(votes) >= MAJORITY) {
                lead();
            }
        }

        private void lead() {
            role = LEADER;
            witness.seeLeader(disk.term, number);
            for (int n = 0; n < NODES; n++) {
                next[n] = disk.last + 1;
                match[n] = 0;
            }
            if (disk.last < MAX_LAST && !lengthenLog(new Command(NOTHING, 0, 0, 0, 0, 0, 0))) {
                return;
            }
            sendToAll();
        }

        private void handleAppend(Message m) {
            role = FOLLOWER;
            int base = disk.snapshot.base;
            if (m.number > disk.last) {
                reply(m, DENIAL, disk.last);
                return;
            }
            // What is up to BASE is committed, so it is the same in every leader and needs no look at its TERM.
            if (m.number >= base && disk.termAt(m.number) != m.toldTerm) {
                reply(m, DENIAL, m.number - 1);
                return;
            }
            if (!keepEntries(m, base)) {
                return;
            }
            int lastSent = m.number + m.entryCount();
            commit = Math.max(commit, Math.min(m.commit, lastSent));
            reply(m, ACCEPT, Math.max(lastSent, base));
        }

        /** False if the power failed. */
        private boolean keepEntries(Message m, int base) {
            for (int i = 0; i < m.entryCount(); i++) {
                int index = m.number + 1 + i;
                Entry entry = m.entries[i];
                if (index <= base || entry == null || disk.termAt(index) == entry.term) {
                    continue;
                }
                if (!survives(disk.recordEntry(index, entry))) {
                    return false;
                }
            }
            return true;
        }

        private void handleAccept(Message m) {
            if (role != LEADER) {
                return;
            }
            if (match[m.from] < m.number) {
                match[m.from] = m.number;
            }
            next[m.from] = match[m.from] + 1;
            commitWhatMatches();
            if (next[m.from] <= disk.last) {
                sendTo(m.from);
            }
        }

        private void commitWhatMatches() {
            int highest = 0;
            int second = 0;
            for (int n = 0; n < NODES; n++) {
                if (n != number && match[n] > highest) {
                    second = highest;
                    highest = match[n];
                } else if (n != number && match[n] > second) {
                    second = match[n];
                }
            }
            for (int index = Math.min(second, disk.last); index > commit; index--) {
                if (disk.termAt(index) == disk.term) {
                    commit = index;
                    return;
                }
            }
        }

        private void handleDenial(Message m) {
            if (role != LEADER) {
                return;
            }
            if (next[m.from] > m.number + 1) {
                next[m.from] = Math.max(m.number, match[m.from]) + 1;
            }
            sendTo(m.from);
        }

        private void handleSnapshot(Message m) {
            role = FOLLOWER;
            Snapshot sent = m.snapshot;
            if (sent == null) {
                return;
            }
            if (commit >= sent.base) {
                reply(m, ACCEPT, commit);
                return;
            }
            if (!survives(disk.recordSnapshot(sent))) {
                return;
            }
            loadSnapshot();
            reply(m, ACCEPT, sent.base);
        }

        boolean lengthenLog(Command command) {
            return survives(disk.recordEntry(disk.last + 1, new Entry(disk.term, command)));
        }

        void sendToAll() {
            for (int n = 0; n < NODES; n++) {
                if (n != number) {
                    sendTo(n);
                }
            }
        }

        private void sendTo(int to) {
            int previous = next[to] - 1;
            Snapshot own = disk.snapshot;
            if (previous < own.base) {
                Message whole = new Message(SNAPSHOT, number, to, disk.term, own.base, own.term);
                whole.snapshot = own;
                mail.send(whole);
                return;
            }
            Message part = new Message(APPEND, number, to, disk.term, previous, disk.termAt(previous));
            part.entries = disk.entriesBehind(previous);
            part.commit = commit;
            mail.send(part);
        }

        private void reply(Message m, int type, int told) {
            mail.send(new Message(type, number, m.from, disk.term, told, 0));
        }

        void takeSnapshot() {
            Store copy = new Store();
            copy.copyFrom(store);
            survives(disk.recordSnapshot(new Snapshot(copy, commit, disk.termAt(commit))));
        }

        private void applyCommitted() {
            for (int index = applied + 1; index <= commit; index++) {
                Entry entry = disk.entryAt(index);
                if (entry == null || index >= results.length) {
                    return;
                }
                witness.seeApplied(index, entry);
                results[index] = store.run(entry.command);
                store.forgetBeyondLimit();
                applied = index;
            }
        }

        boolean knowsResult(int index) {
            return up && index > storeFrom && index <= applied && index < results.length;
        }

        /** Hands on whether a RECORD was written: if it was not, the power failed. */
        private boolean survives(boolean written) {
            if (!written) {
                goDown();
            }
            return written;
        }

        void goDown() {
            up = false;
            role = FOLLOWER;
            votes = 0;
            commit = disk.snapshot.base;
            applied = commit;
            disk.recordsLeft = NEVER;
        }

        void comeUp() {
            up = true;
            loadSnapshot();
        }

        private void loadSnapshot() {
            store.copyFrom(disk.snapshot.store);
            commit = disk.snapshot.base;
            applied = commit;
            storeFrom = commit;
        }

        int field(int what) {
            switch (what) {
                case 0:
                    return up ? 1 : 0;
                case 1:
                    return disk.term;
                case 2:
                    return disk.voted;
                case 3:
                    return role;
                case 4:
                    return disk.snapshot.base;
                case 5:
                    return disk.last;
                case 6:
                    return commit;
                default:
                    return disk.termAt(disk.last);
            }
        }
    }

    private static final class Store {
        int revision = 1;
        int compacted;
        // As event() tells them, in order; these numbers hold all that an EVENT has.
        final long[] events = new long[EVENT_ROOM];
        int eventCount;
        private int time;
        // All 0 for a KEY that is not there.
        private final int[] version = new int[KEYS];
        private final int[] came = new int[KEYS];
        private final int[] changed = new int[KEYS];
        private final int[] value = new int[KEYS];
        private final int[] lease = new int[KEYS];
        // As the KEYS were at COMPACTED (bit k is KEY k), since the EVENTS up to there are forgotten.
        private long oldThere;
        private final int[] oldValue = new int[KEYS];
        // Bit 0 is LEASE 1.
        private int leaseBits;
        private final int[] leaseEnd = new int[LEASES + 1];

        void copyFrom(Store other) {
            revision = other.revision;
            time = other.time;
            compacted = other.compacted;
            eventCount = other.eventCount;
            oldThere = other.oldThere;
            leaseBits = other.leaseBits;
            System.arraycopy(other.events, 0, events, 0, EVENT_ROOM);
            System.arraycopy(other.version, 0, version, 0, KEYS);
            System.arraycopy(other.came, 0, came, 0, KEYS);
            System.arraycopy(other.changed, 0, changed, 0, KEYS);
            System.arraycopy(other.value, 0, value, 0, KEYS);
            System.arraycopy(other.lease, 0, lease, 0, KEYS);
            System.arraycopy(other.oldValue, 0, oldValue, 0, KEYS);
            System.arraycopy(other.leaseEnd, 0, leaseEnd, 0, LEASES + 1);
        }

        /** The RESULT of a COMMAND. */
        int run(Command x) {
            switch (x.kind) {
                case PUT:
                    return putWithLease(x.a, x.b, x.c);
                case REMOVE:
                    return removeRange(x.a, x.b);
                case COMPARE:
                    return compareAndPut(x);
                case GRANT:
                    return grant(x.a, x.b);
                case REVOKE:
                    return revoke(x.a);
                case RENEW:
                    return renew(x.a, x.b);
                case TICK:
                    return tick();
                case COMPACT:
                    return compact(x.a);
                default:
                    return 0;
            }
        }

        private int putWithLease(int k, int newValue, int l) {
            if (l != 0 && !hasLease(l)) {
                return -1;
            }
            put(k, newValue, l);
            return revision;
        }

        private int removeRange(int from, int to) {
            int removed = 0;
            for (int k = Math.max(from, 0); k <= to && k < KEYS; k++) {
                removed += remove(k);
            }
            endRevision(removed);
            return removed;
        }

        private int compareAndPut(Command x) {
            if (compares(keyField(x.a, x.b), x.c, x.d)) {
                put(x.e, x.f, 0);
                return 1;
            }
            endRevision(remove(x.e));
            return 0;
        }

        private static boolean compares(int own, int how, int other) {
            if (how == 0) {
                return own == other;
            }
            return how == 1 ? own < other : own > other;
        }

        private int grant(int l, int ticks) {
            if (!isLease(l) || hasLease(l)) {
                return 0;
            }
            leaseBits |= bitOfLease(l);
            leaseEnd[l] = time + ticks;
            return 1;
        }

        private int revoke(int l) {
            if (!hasLease(l)) {
                return -1;
            }
            leaseBits &= ~bitOfLease(l);
            int removed = 0;
            for (int k = 0; k < KEYS; k++) {
                if (lease[k] == l) {
                    removed += remove(k);
                }
            }
            endRevision(removed);
            return removed;
        }

        private int renew(int l, int ticks) {
            if (!hasLease(l)) {
                return 0;
            }
            leaseEnd[l] = time + ticks;
            return 1;
        }

        private int tick() {
            time++;
            for (int l = 1; l <= LEASES; l++) {
                if (hasLease(l) && leaseEnd[l] <= time) {
                    revoke(l);
                }
            }
            return time;
        }

        private int compact(int r) {
            if (r <= compacted || r > revision) {
                return 0;
            }
            compacted = r;
            forgetCompacted();
            return 1;
        }

        private boolean hasLease(int l) {
            return isLease(l) && (leaseBits & bitOfLease(l)) != 0;
        }

        private static int bitOfLease(int l) {
            return 1 << (l - 1);
        }

        private void put(int k, int newValue, int l) {
            if (!isKey(k)) {
                return;
            }
            int now = revision + 1;
            if (version[k] == 0) {
                came[k] = now;
            }
            version[k]++;
            changed[k] = now;
            value[k] = newValue;
            lease[k] = l;
            addEvent(((long) now << 38) + ((long) k << 32) + (newValue & 0xFFFFFFFFL));
            endRevision(1);
        }

        /** How many KEYS went: 1, or 0 if it was not there. Its EVENT has the REVISION that endRevision makes. */
        private int remove(int k) {
            if (!isKey(k) || version[k] == 0) {
                return 0;
            }
            version[k] = 0;
            came[k] = 0;
            changed[k] = 0;
            value[k] = 0;
            lease[k] = 0;
            addEvent(-1L - (64L * (revision + 1) + k));
            return 1;
        }

        private void endRevision(int eventsOfIt) {
            if (eventsOfIt > 0) {
                revision++;
            }
        }

        private void addEvent(long told) {
            if (eventCount < EVENT_ROOM) {
                events[eventCount] = told;
                eventCount++;
            }
        }

        void forgetBeyondLimit() {
            for (int i = 0; i < EVENT_ROOM && eventCount > MAX_EVENTS; i++) {
                compacted = revisionOf(events[0]);
                forgetCompacted();
            }
        }

        private void forgetCompacted() {
            int gone = 0;
            while (gone < eventCount && revisionOf(events[gone]) <= compacted) {
                int k = keyOf(events[gone]);
                oldThere = isPut(events[gone]) ? oldThere | 1L << k : oldThere & ~(1L << k);
                oldValue[k] = valueOf(events[gone]);
                gone++;
            }
            System.arraycopy(events, gone, events, 0, eventCount - gone);
            eventCount -= gone;
        }

        private static boolean isPut(long told) {
            return told >= 0;
        }

        private static int revisionOf(long told) {
            return (int) (isPut(told) ? told >> 38 : (-1L - told) >> 6);
        }

        private static int keyOf(long told) {
            return (int) ((isPut(told) ? told >> 32 : -1L - told) & 63L);
        }

        private static int valueOf(long told) {
            return isPut(told) ? (int) told : 0;
        }

        int keyField(int k, int what) {
            if (!isKey(k)) {
                return 0;
            }
            switch (what) {
                case KEY_VERSION:
                    return version[k];
                case KEY_CAME:
                    return came[k];
                case KEY_CHANGED:
                    return changed[k];
                case KEY_VALUE:
                    return value[k];
                default:
                    return lease[k];
            }
        }

        /** The last EVENT of KEY k up to REVISION r, by its place; NONE if it has none that is not forgotten. */
        int latestEventOfKey(int k, int r) {
            for (int i = firstEventFrom(r + 1) - 1; i >= 0; i--) {
                if (keyOf(events[i]) == k) {
                    return i;
                }
            }
            return NONE;
        }

        boolean wasThere(int k, int latest) {
            if (latest >= 0 && latest < eventCount) {
                return isPut(events[latest]);
            }
            return (oldThere & 1L << k) != 0;
        }

        int valueThen(int k, int latest) {
            if (latest >= 0 && latest < eventCount) {
                return valueOf(events[latest]);
            }
            return isKey(k) ? oldValue[k] : 0;
        }

        /** The place of the first EVENT of a REVISION not below r; how many EVENTS there are, if there is none. */
        int firstEventFrom(int r) {
            int i = 0;
            while (i < eventCount && revisionOf(events[i]) < r) {
                i++;
            }
            return i;
        }

        int field(int what) {
            switch (what) {
                case 8:
                    return revision;
                case 9:
                    return time;
                case 10:
                    return compacted;
                case 11:
                    return keysThere();
                case 12:
                    return leaseBits;
                default:
                    return eventCount;
            }
        }

        private int keysThere() {
            int there = 0;
            for (int k = 0; k < KEYS; k++) {
                if (version[k] != 0) {
                    there++;
                }
            }
            return there;
        }

        long fingerprint() {
            long h = 7;
            for (int k = 0; k < KEYS; k++) {
                if (version[k] != 0) {
                    h = h * 31 + k;
                    h = h * 31 + value[k];
                    h = h * 31 + version[k];
                    h = h * 31 + came[k];
                    h = h * 31 + changed[k];
                    h = h * 31 + lease[k];
                }
            }
            for (int i = 0; i < eventCount; i++) {
                h = h * 31 + events[i];
            }
            return h * 31 + revision;
        }
    }
}
