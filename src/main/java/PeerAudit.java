/**
 * A simulator of accountable distributed machines: machines with hash-chained logs, messages with
 * authenticators and acknowledgements, faults, and witnesses that audit the logs.
 *
 * <p>Every method of the face looks at its arguments first, saves the state if it is undoable, and only
 * then changes something: so a call that throws leaves everything as it was.
 */
public final class PeerAudit {
    public static final int NONE = -1;
    public static final int INPUT = 0, RECEIVE = 1, SEND = 2;
    public static final int TRUSTED = 0, SUSPECTED = 1, EXPOSED = 2;
    public static final int MISMATCH = 0, REPLAY = 1;

    private static final int FIRST_MACHINES = 3, LEAST_MACHINES = 2, MOST_MACHINES = 6;
    private static final int VALUES = 1000;
    private static final int STATES = 9973;
    private static final int MOST_ENTRIES = 40, MOST_QUEUED = 40, MOST_PENDING = 40;
    private static final int MOST_HELD = 60, MOST_EVIDENCE = 30, MOST_SAVED = 4, MOST_RUN = 100;
    /** Taking one value may append two entries and one message. */
    private static final int ENTRIES_WITH_ROOM = MOST_ENTRIES - 2, QUEUED_WITH_ROOM = MOST_QUEUED - 1;

    private static final int CHAIN_START = 1;
    private static final long CHAIN_FACTOR = 1000003L, CHAIN_MODULUS = 2147483647L;
    private static final long DIGEST_START = 12833L, DIGEST_FACTOR = 31L;

    /** The columns of a log; the last one is the number of the chain after the entry. */
    private static final int LOG_KIND = 0, LOG_PEER = 1, LOG_VALUE = 2, LOG_CHAIN = 3, LOG_WIDTH = 4;
    /** The columns of authenticators, in the order of the argument 'what' of authenticator(). */
    private static final int AUTH_MACHINE = 0, AUTH_ENTRY = 1, AUTH_CHAIN = 2, AUTH_WIDTH = 3;
    /** The columns of messages; sender, entry and chain are the authenticator of the SEND entry. */
    private static final int MSG_SENDER = 0, MSG_ENTRY = 1, MSG_CHAIN = 2, MSG_RECEIVER = 3, MSG_VALUE = 4,
        MSG_WIDTH = 5;
    /** The columns of evidence, in the order of the argument 'what' of evidence(). */
    private static final int EV_KIND = 0, EV_MACHINE = 1, EV_WITNESS = 2, EV_ENTRY = 3, EV_WIDTH = 4;

    private final World world;
    /** A ring: the slots are made once and used again, as a run has room for few objects. */
    private final World[] saved;
    private int savedCount;
    private int nextSlot;

    public PeerAudit() {
        world = new World();
        world.begin(FIRST_MACHINES);
        saved = new World[MOST_SAVED];
        for (int i = 0; i < MOST_SAVED; i++) {
            saved[i] = new World();
        }
    }

    // ---- machines

    public int reset(int n) throws IllegalArgumentException {
        if (n < LEAST_MACHINES || n > MOST_MACHINES) {
            throw new IllegalArgumentException("n is out of range");
        }
        save();
        int previous = world.n;
        world.begin(n);
        return previous;
    }

    public int input(int machine, int value)
            throws IndexOutOfBoundsException, IllegalArgumentException, IllegalStateException {
        requireMachine(machine);
        requireValue(value);
        Machine taker = world.machines[machine];
        if (!taker.hasRoom(world.queue.count)) {
            throw new IllegalStateException("the machine has no room");
        }
        save();
        world.take(taker, INPUT, NONE, value);
        return taker.state;
    }

    public int deliver() throws IllegalStateException {
        int receiver = world.firstReceiver();
        if (receiver == NONE) {
            return NONE;
        }
        if (!world.canDeliver()) {
            throw new IllegalStateException("the receiver has no room");
        }
        save();
        world.deliverFirst();
        return receiver;
    }

    public int run(int most) throws IllegalArgumentException {
        if (most < 1 || most > MOST_RUN) {
            throw new IllegalArgumentException("most is out of range");
        }
        save();
        int delivered = 0;
        while (delivered < most && world.canDeliver()) {
            world.deliverFirst();
            delivered++;
        }
        return delivered;
    }

    public int queued() {
        return world.queue.count;
    }

    public int state(int machine) throws IndexOutOfBoundsException {
        requireMachine(machine);
        return world.machines[machine].state;
    }

    public int setSilent(int machine, boolean silent) throws IndexOutOfBoundsException {
        requireMachine(machine);
        save();
        Machine target = world.machines[machine];
        target.silent = silent;
        return target.pending.count;
    }

    public int pending(int machine) throws IndexOutOfBoundsException {
        requireMachine(machine);
        return world.machines[machine].pending.count;
    }

    public int resend(int machine) throws IndexOutOfBoundsException, IllegalStateException {
        requireMachine(machine);
        Table waiting = world.machines[machine].pending;
        int count = waiting.count;
        if (world.queue.count + count > MOST_QUEUED) {
            throw new IllegalStateException("the queue would have too many messages");
        }
        save();
        for (int i = 0; i < count; i++) {
            world.queue.addCopy(waiting, i);
        }
        waiting.keepFirst(0);
        return count;
    }

    // ---- logs and faults

    public boolean lie(int machine) throws IndexOutOfBoundsException {
        requireMachine(machine);
        save();
        Machine liar = world.machines[machine];
        boolean before = liar.aboutToLie;
        liar.aboutToLie = true;
        return before;
    }

    public int tamper(int machine, int entry, int value)
            throws IndexOutOfBoundsException, IllegalArgumentException {
        requireEntry(machine, entry);
        requireValue(value);
        save();
        Machine target = world.machines[machine];
        int before = target.log.get(entry, LOG_VALUE);
        target.log.set(entry, LOG_VALUE, value);
        target.rechain(entry);
        return before;
    }

    public int cut(int machine, int count) throws IndexOutOfBoundsException, IllegalArgumentException {
        requireMachine(machine);
        Table log = world.machines[machine].log;
        if (count < 1 || count > log.count) {
            throw new IllegalArgumentException("count is out of range");
        }
        save();
        log.keepFirst(log.count - count);
        return log.count;
    }

    public int logLength(int machine) throws IndexOutOfBoundsException {
        requireMachine(machine);
        return world.machines[machine].log.count;
    }

    public int entry(int machine, int entry) throws IndexOutOfBoundsException {
        requireEntry(machine, entry);
        return world.machines[machine].packedEntry(entry);
    }

    public int chain(int machine, int index) throws IndexOutOfBoundsException {
        requireMachine(machine);
        Machine target = world.machines[machine];
        if (index < 0 || index > target.log.count) {
            throw new IndexOutOfBoundsException("no such number of the chain");
        }
        return target.chainAt(index);
    }

    public int held(int machine) throws IndexOutOfBoundsException {
        requireMachine(machine);
        return world.machines[machine].held.count;
    }

    public int authenticator(int machine, int index, int what)
            throws IndexOutOfBoundsException, IllegalArgumentException {
        requireMachine(machine);
        Table held = world.machines[machine].held;
        if (index < 0 || index >= held.count) {
            throw new IndexOutOfBoundsException("no such authenticator");
        }
        if (what < 0 || what >= AUTH_WIDTH) {
            throw new IllegalArgumentException("what is out of range");
        }
        return held.get(index, what);
    }

    // ---- audits

    public int setWitnesses(int machine, int witnesses)
            throws IndexOutOfBoundsException, IllegalArgumentException {
        requireMachine(machine);
        if ((witnesses & ~othersOf(machine, world.n)) != 0) {
            throw new IllegalArgumentException("witnesses are other machines");
        }
        save();
        Machine target = world.machines[machine];
        int before = target.witnesses;
        target.witnesses = witnesses;
        return before;
    }

    public int audit(int witness, int machine) throws IndexOutOfBoundsException, IllegalStateException {
        requireMachine(witness);
        requireMachine(machine);
        Machine target = world.machines[machine];
        if (!target.hasWitness(witness)) {
            throw new IllegalStateException("not a witness of the machine");
        }
        save();
        target.verdicts[witness] = world.judge(witness, target);
        return target.verdicts[witness];
    }

    public int auditAll() {
        save();
        int changed = 0;
        for (int x = 0; x < world.n; x++) {
            changed += world.judgeByAll(world.machines[x]);
        }
        return changed;
    }

    public int verdict(int witness, int machine) throws IndexOutOfBoundsException {
        requireMachine(witness);
        requireMachine(machine);
        return world.machines[machine].verdicts[witness];
    }

    public int verdictMask(int verdict) throws IllegalArgumentException {
        if (verdict < TRUSTED || verdict > EXPOSED) {
            throw new IllegalArgumentException("verdict is out of range");
        }
        int mask = 0;
        for (int x = 0; x < world.n; x++) {
            if (world.someWitnessSays(world.machines[x], verdict)) {
                mask |= 1 << x;
            }
        }
        return mask;
    }

    public int evidenceCount() {
        return world.evidence.count;
    }

    public int evidence(int index, int what) throws IndexOutOfBoundsException, IllegalArgumentException {
        if (index < 0 || index >= world.evidence.count) {
            throw new IndexOutOfBoundsException("no such piece of evidence");
        }
        if (what < 0 || what >= EV_WIDTH) {
            throw new IllegalArgumentException("what is out of range");
        }
        return world.evidence.get(index, what);
    }

    // ---- undo and checksum

    public int undo() throws IllegalStateException {
        if (savedCount == 0) {
            throw new IllegalStateException("the undo stack is empty");
        }
        nextSlot = (nextSlot + MOST_SAVED - 1) % MOST_SAVED;
        world.copyWorld(saved[nextSlot]);
        savedCount--;
        return savedCount;
    }

    public long digest() {
        long h = mix(DIGEST_START, savedCount);
        h = mix(h, world.n);
        for (int x = 0; x < world.n; x++) {
            h = mixMachine(h, world.machines[x], world.n);
        }
        h = mixQueue(h, world.queue);
        return mixEvidence(h, world.evidence);
    }

    // ---- what the methods above share

    private void requireMachine(int machine) {
        if (!world.isMachine(machine)) {
            throw new IndexOutOfBoundsException("no such machine");
        }
    }

    private void requireEntry(int machine, int entry) {
        requireMachine(machine);
        if (entry < 0 || entry >= world.machines[machine].log.count) {
            throw new IndexOutOfBoundsException("no such entry");
        }
    }

    private static void requireValue(int value) {
        if (value < 0 || value >= VALUES) {
            throw new IllegalArgumentException("value is out of range");
        }
    }

    private void save() {
        saved[nextSlot].copyWorld(world);
        nextSlot = (nextSlot + 1) % MOST_SAVED;
        if (savedCount < MOST_SAVED) {
            savedCount++;
        }
    }

    private static long mix(long h, long value) {
        return DIGEST_FACTOR * h + value;
    }

    private static long mixMachine(long start, Machine machine, int n) {
        long h = mix(start, machine.state);
        h = mix(h, machine.silent ? 1 : 0);
        h = mix(h, machine.aboutToLie ? 1 : 0);
        h = mix(h, machine.witnesses);
        int length = machine.log.count;
        h = mix(h, length);
        for (int k = 0; k < length; k++) {
            h = mix(h, machine.packedEntry(k));
        }
        h = mix(h, machine.chainAt(length));
        h = mix(h, machine.held.count);
        h = mix(h, machine.pending.count);
        for (int w = 0; w < n; w++) {
            h = mix(h, machine.verdicts[w]);
        }
        return h;
    }

    private static long mixQueue(long start, Table queue) {
        long h = mix(start, queue.count);
        for (int i = 0; i < queue.count; i++) {
            h = mix(h, queue.get(i, MSG_RECEIVER));
            h = mix(h, queue.get(i, MSG_VALUE));
        }
        return h;
    }

    private static long mixEvidence(long start, Table evidence) {
        long h = mix(start, evidence.count);
        for (int i = 0; i < evidence.count; i++) {
            for (int what = 0; what < EV_WIDTH; what++) {
                h = mix(h, evidence.get(i, what));
            }
        }
        return h;
    }

    // ---- the rules by which machines run; the replay of an audit goes by the same ones

    private static int nextState(int state, int peer, int value) {
        return (31 * state + 17 * value + peer + 2) % STATES;
    }

    private static boolean hasOutput(int state) {
        return state % 3 == 0;
    }

    private static int outputValue(int state) {
        return state % VALUES;
    }

    private static int outputPeer(int number, int state, int n) {
        int others = n - 1;
        int peer = number + 1 + (others > 0 ? state % others : 0);
        return peer >= n ? peer - n : peer;
    }

    private static int nextChain(int before, int kind, int peer, int value) {
        return (int) ((before * CHAIN_FACTOR + 7 * kind + 31 * (peer + 1) + 257 * value) % CHAIN_MODULUS);
    }

    private static int othersOf(int machine, int n) {
        return ((1 << n) - 1) & ~(1 << machine);
    }

    /** A list of rows of numbers with a fixed place for as many rows as it may ever have. */
    private static final class Table {
        final int width;
        final int most;
        final int[] cells;
        int count;

        Table(int width, int most) {
            this.width = width;
            this.most = most;
            this.cells = new int[width * most];
        }

        /** Returns NONE if there is no such cell. */
        int get(int row, int column) {
            if (row < 0 || row >= count || column < 0 || column >= width) {
                return NONE;
            }
            return cells[row * width + column];
        }

        /** Does nothing if there is no such cell. */
        void set(int row, int column, int value) {
            if (row >= 0 && row < count && column >= 0 && column < width) {
                cells[row * width + column] = value;
            }
        }

        /** Returns the number of the new row, whose cells are to be set by the caller; NONE if there is no place. */
        int addRow() {
            if (count >= most) {
                return NONE;
            }
            count++;
            return count - 1;
        }

        /** Does nothing if this list is full: a message that finds no place is lost. */
        void addCopy(Table other, int row) {
            int added = addRow();
            for (int column = 0; column < width; column++) {
                set(added, column, other.get(row, column));
            }
        }

        void removeFirst() {
            if (count > 0) {
                count--;
                System.arraycopy(cells, width, cells, 0, count * width);
            }
        }

        void keepFirst(int rows) {
            if (rows >= 0 && rows < count) {
                count = rows;
            }
        }

        /** The other table must be of the same width and size. */
        void copyRows(Table other) {
            count = other.count;
            System.arraycopy(other.cells, 0, cells, 0, count * width);
        }
    }

    private static final class Machine {
        final int number;
        int state;
        boolean silent;
        boolean aboutToLie;
        /** Which machines are its witnesses, as a bit mask. */
        int witnesses;
        /** What each machine says of this one. Nobody ever audits itself, so its own stays TRUSTED. */
        final int[] verdicts;
        final Table log;
        final Table held;
        final Table pending;

        Machine(int number) {
            this.number = number;
            verdicts = new int[MOST_MACHINES];
            log = new Table(LOG_WIDTH, MOST_ENTRIES);
            held = new Table(AUTH_WIDTH, MOST_HELD);
            pending = new Table(MSG_WIDTH, MOST_PENDING);
        }

        void start(int n) {
            state = number;
            silent = false;
            aboutToLie = false;
            witnesses = othersOf(number, n);
            for (int w = 0; w < MOST_MACHINES; w++) {
                verdicts[w] = TRUSTED;
            }
            log.keepFirst(0);
            held.keepFirst(0);
            pending.keepFirst(0);
        }

        void copyMachine(Machine other) {
            state = other.state;
            silent = other.silent;
            aboutToLie = other.aboutToLie;
            witnesses = other.witnesses;
            System.arraycopy(other.verdicts, 0, verdicts, 0, MOST_MACHINES);
            log.copyRows(other.log);
            held.copyRows(other.held);
            pending.copyRows(other.pending);
        }

        boolean hasRoom(int queuedMessages) {
            return log.count <= ENTRIES_WITH_ROOM && queuedMessages <= QUEUED_WITH_ROOM;
        }

        boolean hasWitness(int machine) {
            return (witnesses & (1 << machine)) != 0;
        }

        int chainAt(int index) {
            return index == 0 ? CHAIN_START : log.get(index - 1, LOG_CHAIN);
        }

        int packedEntry(int k) {
            return 100000 * log.get(k, LOG_KIND) + 10000 * (log.get(k, LOG_PEER) + 1) + log.get(k, LOG_VALUE);
        }

        void append(int kind, int peer, int value) {
            int k = log.addRow();
            log.set(k, LOG_KIND, kind);
            log.set(k, LOG_PEER, peer);
            log.set(k, LOG_VALUE, value);
            log.set(k, LOG_CHAIN, nextChain(chainAt(k), kind, peer, value));
        }

        /** The numbers of the chain before the entry do not depend on it. */
        void rechain(int entry) {
            for (int k = entry; k < log.count; k++) {
                int after = nextChain(chainAt(k), log.get(k, LOG_KIND), log.get(k, LOG_PEER), log.get(k, LOG_VALUE));
                log.set(k, LOG_CHAIN, after);
            }
        }

        void hold(int machine, int entry, int chain) {
            if (held.count >= MOST_HELD) {
                held.removeFirst();
            }
            int row = held.addRow();
            held.set(row, AUTH_MACHINE, machine);
            held.set(row, AUTH_ENTRY, entry);
            held.set(row, AUTH_CHAIN, chain);
        }

        /** Returns the first entry that an authenticator in this machine's hands belies; NONE if there is none. */
        int beliedEntryOf(Machine other) {
            for (int i = 0; i < held.count; i++) {
                if (held.get(i, AUTH_MACHINE) == other.number) {
                    int entry = held.get(i, AUTH_ENTRY);
                    if (entry >= other.log.count || other.chainAt(entry + 1) != held.get(i, AUTH_CHAIN)) {
                        return entry;
                    }
                }
            }
            return NONE;
        }

        /** Returns the first place at which the log is not what an honest machine writes; NONE if there is none. */
        int replayFault(int n) {
            int replayed = number;
            int k = 0;
            while (k < log.count) {
                if (log.get(k, LOG_KIND) == SEND) {
                    return k;
                }
                replayed = nextState(replayed, log.get(k, LOG_PEER), log.get(k, LOG_VALUE));
                k++;
                if (hasOutput(replayed)) {
                    if (!isSend(k, outputPeer(number, replayed, n), outputValue(replayed))) {
                        return k;
                    }
                    k++;
                }
            }
            return NONE;
        }

        boolean isSend(int k, int peer, int value) {
            return k < log.count && log.get(k, LOG_KIND) == SEND
                && log.get(k, LOG_PEER) == peer && log.get(k, LOG_VALUE) == value;
        }
    }

    /** Everything that undo brings back. */
    private static final class World {
        int n;
        /** There is a place for each machine that may ever be; only the first n are in use. */
        final Machine[] machines;
        final Table queue;
        final Table evidence;

        World() {
            machines = new Machine[MOST_MACHINES];
            for (int x = 0; x < MOST_MACHINES; x++) {
                machines[x] = new Machine(x);
            }
            queue = new Table(MSG_WIDTH, MOST_QUEUED);
            evidence = new Table(EV_WIDTH, MOST_EVIDENCE);
        }

        void begin(int newN) {
            n = newN;
            for (int x = 0; x < n; x++) {
                machines[x].start(n);
            }
            queue.keepFirst(0);
            evidence.keepFirst(0);
        }

        void copyWorld(World other) {
            n = other.n;
            for (int x = 0; x < n; x++) {
                machines[x].copyMachine(other.machines[x]);
            }
            queue.copyRows(other.queue);
            evidence.copyRows(other.evidence);
        }

        boolean isMachine(int number) {
            return number >= 0 && number < n;
        }

        void take(Machine taker, int kind, int peer, int value) {
            taker.append(kind, peer, value);
            taker.state = nextState(taker.state, peer, value);
            if (hasOutput(taker.state)) {
                send(taker);
            }
        }

        void send(Machine sender) {
            int receiver = outputPeer(sender.number, sender.state, n);
            int value = outputValue(sender.state);
            if (sender.aboutToLie) {
                value = (value + 1) % VALUES;
                sender.aboutToLie = false;
            }
            int entry = sender.log.count;
            sender.append(SEND, receiver, value);
            int row = queue.addRow();
            queue.set(row, MSG_SENDER, sender.number);
            queue.set(row, MSG_ENTRY, entry);
            queue.set(row, MSG_CHAIN, sender.chainAt(entry + 1));
            queue.set(row, MSG_RECEIVER, receiver);
            queue.set(row, MSG_VALUE, value);
        }

        /** Returns the receiver of the first message; NONE if the queue is empty. */
        int firstReceiver() {
            return queue.get(0, MSG_RECEIVER);
        }

        /** Whether there is a first message, and its receiver is silent or has room. */
        boolean canDeliver() {
            int receiver = firstReceiver();
            if (!isMachine(receiver) || !isMachine(queue.get(0, MSG_SENDER))) {
                return false;
            }
            // the message that is being delivered does not take room in the queue
            return machines[receiver].silent || machines[receiver].hasRoom(queue.count - 1);
        }

        /** To be called only if canDeliver(). */
        void deliverFirst() {
            Machine receiver = machines[queue.get(0, MSG_RECEIVER)];
            if (receiver.silent) {
                receiver.pending.addCopy(queue, 0);
                queue.removeFirst();
                return;
            }
            Machine sender = machines[queue.get(0, MSG_SENDER)];
            int value = queue.get(0, MSG_VALUE);
            receiver.hold(sender.number, queue.get(0, MSG_ENTRY), queue.get(0, MSG_CHAIN));
            queue.removeFirst();
            int entry = receiver.log.count;
            take(receiver, RECEIVE, sender.number, value);
            sender.hold(receiver.number, entry, receiver.chainAt(entry + 1));
        }

        /** Returns how many verdicts on the machine changed. */
        int judgeByAll(Machine target) {
            int changed = 0;
            for (int w = 0; w < n; w++) {
                if (target.hasWitness(w)) {
                    int before = target.verdicts[w];
                    target.verdicts[w] = judge(w, target);
                    if (target.verdicts[w] != before) {
                        changed++;
                    }
                }
            }
            return changed;
        }

        /** Goes through the steps of an audit, and returns the verdict to which it comes. */
        int judge(int witness, Machine target) {
            if (target.verdicts[witness] == EXPOSED) {
                return EXPOSED;
            }
            if (target.silent) {
                return SUSPECTED;
            }
            int entry = beliedEntry(target);
            if (entry != NONE) {
                addEvidence(MISMATCH, target.number, witness, entry);
                return EXPOSED;
            }
            entry = target.replayFault(n);
            if (entry != NONE) {
                addEvidence(REPLAY, target.number, witness, entry);
                return EXPOSED;
            }
            return target.pending.count > 0 ? SUSPECTED : TRUSTED;
        }

        /** Returns the first entry that an authenticator of a holder who speaks belies; NONE if there is none. */
        int beliedEntry(Machine target) {
            for (int x = 0; x < n; x++) {
                if (!machines[x].silent) {
                    int entry = machines[x].beliedEntryOf(target);
                    if (entry != NONE) {
                        return entry;
                    }
                }
            }
            return NONE;
        }

        void addEvidence(int kind, int machine, int witness, int entry) {
            int row = evidence.addRow();
            evidence.set(row, EV_KIND, kind);
            evidence.set(row, EV_MACHINE, machine);
            evidence.set(row, EV_WITNESS, witness);
            evidence.set(row, EV_ENTRY, entry);
        }

        boolean someWitnessSays(Machine target, int verdict) {
            for (int w = 0; w < n; w++) {
                if (target.hasWitness(w) && target.verdicts[w] == verdict) {
                    return true;
                }
            }
            return false;
        }
    }
}
