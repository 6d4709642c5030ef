import java.util.ArrayDeque;
import java.util.ArrayList;
import java.util.Deque;
import java.util.List;

/**
 * The document told once more, as plainly as the Java library allows and without regard to room: values that never
 * change, lists that are copied whole, and a chain that is computed anew from the entries whenever it is asked for.
 * It shares no code with PeerAudit, so that the two can be held against each other.
 */
final class Model {
    record Entry(int kind, int peer, int value) { }

    record Auth(int machine, int entry, long chain) { }

    record Message(int receiver, int value, Auth auth) { }

    record Evidence(int kind, int machine, int witness, int entry) { }

    static final class Node {
        int state;
        boolean silent;
        boolean liar;
        List<Integer> witnesses = new ArrayList<>();
        List<Entry> log = new ArrayList<>();
        List<Auth> held = new ArrayList<>();
        List<Message> pending = new ArrayList<>();

        Node copy() {
            Node c = new Node();
            c.state = state;
            c.silent = silent;
            c.liar = liar;
            c.witnesses = new ArrayList<>(witnesses);
            c.log = new ArrayList<>(log);
            c.held = new ArrayList<>(held);
            c.pending = new ArrayList<>(pending);
            return c;
        }

        long h(int index) {
            long h = 1;
            for (Entry e : log.subList(0, index)) {
                h = Math.floorMod(h * 1000003L + 7L * e.kind + 31L * (e.peer + 1) + 257L * e.value, 2147483647L);
            }
            return h;
        }

        void get(Auth auth) {
            held.add(auth);
            while (held.size() > 60) {
                held.remove(0);
            }
        }
    }

    static final class Scene {
        List<Node> nodes = new ArrayList<>();
        List<Message> queue = new ArrayList<>();
        List<Evidence> evidence = new ArrayList<>();
        int[][] verdict = new int[6][6]; // [witness][machine]

        Scene(int n) {
            for (int i = 0; i < n; i++) {
                Node node = new Node();
                node.state = i;
                for (int w = 0; w < n; w++) {
                    if (w != i) {
                        node.witnesses.add(w);
                    }
                }
                nodes.add(node);
            }
        }

        Scene copy() {
            Scene c = new Scene(0);
            for (Node node : nodes) {
                c.nodes.add(node.copy());
            }
            c.queue = new ArrayList<>(queue);
            c.evidence = new ArrayList<>(evidence);
            for (int w = 0; w < 6; w++) {
                c.verdict[w] = verdict[w].clone();
            }
            return c;
        }
    }

    private Scene s = new Scene(3);
    private final Deque<Scene> saved = new ArrayDeque<>();

    private int n() {
        return s.nodes.size();
    }

    private void save() {
        saved.push(s.copy());
        while (saved.size() > 4) {
            saved.removeLast();
        }
    }

    private void bounds(boolean good) {
        if (!good) {
            throw new IndexOutOfBoundsException();
        }
    }

    private void argument(boolean good) {
        if (!good) {
            throw new IllegalArgumentException();
        }
    }

    private void allowed(boolean good) {
        if (!good) {
            throw new IllegalStateException();
        }
    }

    private boolean is(int machine) {
        return 0 <= machine && machine < n();
    }

    /** Not of the face: what a test needs to know of the first message. */
    int firstReceiver() {
        return s.queue.isEmpty() ? -1 : s.queue.get(0).receiver;
    }

    boolean isSilent(int machine) {
        return s.nodes.get(machine).silent;
    }

    int reset(int n) {
        argument(2 <= n && n <= 6);
        save();
        int before = n();
        s = new Scene(n);
        return before;
    }

    private boolean room(int machine, int queued) {
        return s.nodes.get(machine).log.size() <= 38 && queued <= 39;
    }

    private void take(int machine, int kind, int peer, int value) {
        Node node = s.nodes.get(machine);
        node.log.add(new Entry(kind, peer, value));
        int m = (31 * node.state + 17 * value + peer + 2) % 9973;
        node.state = m;
        if (m % 3 != 0) {
            return;
        }
        int out = m % 1000;
        if (node.liar) {
            out = (out + 1) % 1000;
            node.liar = false;
        }
        int to = (machine + 1 + (m % (n() - 1))) % n();
        int k = node.log.size();
        node.log.add(new Entry(2, to, out));
        s.queue.add(new Message(to, out, new Auth(machine, k, node.h(k + 1))));
    }

    int input(int machine, int value) {
        bounds(is(machine));
        argument(0 <= value && value <= 999);
        allowed(room(machine, s.queue.size()));
        save();
        take(machine, 0, -1, value);
        return s.nodes.get(machine).state;
    }

    private boolean stuck() {
        int receiver = s.queue.get(0).receiver;
        return !s.nodes.get(receiver).silent && !room(receiver, s.queue.size() - 1);
    }

    private void step() {
        Message message = s.queue.remove(0);
        Node receiver = s.nodes.get(message.receiver);
        if (receiver.silent) {
            if (receiver.pending.size() < 40) {
                receiver.pending.add(message);
            }
            return;
        }
        receiver.get(message.auth);
        int k = receiver.log.size();
        take(message.receiver, 1, message.auth.machine, message.value);
        s.nodes.get(message.auth.machine).get(new Auth(message.receiver, k, receiver.h(k + 1)));
    }

    int deliver() {
        if (s.queue.isEmpty()) {
            return -1;
        }
        allowed(!stuck());
        save();
        int receiver = s.queue.get(0).receiver;
        step();
        return receiver;
    }

    int run(int most) {
        argument(1 <= most && most <= 100);
        save();
        int count = 0;
        while (!s.queue.isEmpty() && !stuck() && count < most) {
            step();
            count++;
        }
        return count;
    }

    int queued() {
        return s.queue.size();
    }

    int state(int machine) {
        bounds(is(machine));
        return s.nodes.get(machine).state;
    }

    int setSilent(int machine, boolean silent) {
        bounds(is(machine));
        save();
        s.nodes.get(machine).silent = silent;
        return s.nodes.get(machine).pending.size();
    }

    int pending(int machine) {
        bounds(is(machine));
        return s.nodes.get(machine).pending.size();
    }

    int resend(int machine) {
        bounds(is(machine));
        List<Message> pending = s.nodes.get(machine).pending;
        allowed(s.queue.size() + pending.size() <= 40);
        save();
        s.queue.addAll(pending);
        s.nodes.get(machine).pending = new ArrayList<>();
        return pending.size();
    }

    boolean lie(int machine) {
        bounds(is(machine));
        save();
        boolean before = s.nodes.get(machine).liar;
        s.nodes.get(machine).liar = true;
        return before;
    }

    int tamper(int machine, int entry, int value) {
        bounds(is(machine) && 0 <= entry && entry < s.nodes.get(machine).log.size());
        argument(0 <= value && value <= 999);
        save();
        Entry old = s.nodes.get(machine).log.get(entry);
        s.nodes.get(machine).log.set(entry, new Entry(old.kind, old.peer, value));
        return old.value;
    }

    int cut(int machine, int count) {
        bounds(is(machine));
        List<Entry> log = s.nodes.get(machine).log;
        argument(1 <= count && count <= log.size());
        save();
        s.nodes.get(machine).log = new ArrayList<>(log.subList(0, log.size() - count));
        return log.size() - count;
    }

    int logLength(int machine) {
        bounds(is(machine));
        return s.nodes.get(machine).log.size();
    }

    int entry(int machine, int entry) {
        bounds(is(machine) && 0 <= entry && entry < s.nodes.get(machine).log.size());
        Entry e = s.nodes.get(machine).log.get(entry);
        return 100000 * e.kind + 10000 * (e.peer + 1) + e.value;
    }

    int chain(int machine, int index) {
        bounds(is(machine) && 0 <= index && index <= s.nodes.get(machine).log.size());
        return (int) s.nodes.get(machine).h(index);
    }

    int held(int machine) {
        bounds(is(machine));
        return s.nodes.get(machine).held.size();
    }

    int authenticator(int machine, int index, int what) {
        bounds(is(machine) && 0 <= index && index < s.nodes.get(machine).held.size());
        argument(0 <= what && what <= 2);
        Auth auth = s.nodes.get(machine).held.get(index);
        return what == 0 ? auth.machine : what == 1 ? auth.entry : (int) auth.chain;
    }

    private int mask(List<Integer> machines) {
        int mask = 0;
        for (int machine : machines) {
            mask += 1 << machine;
        }
        return mask;
    }

    int setWitnesses(int machine, int witnesses) {
        bounds(is(machine));
        List<Integer> chosen = new ArrayList<>();
        for (int bit = 0; bit < 32; bit++) {
            if ((witnesses >>> bit & 1) == 1) {
                argument(is(bit) && bit != machine);
                chosen.add(bit);
            }
        }
        save();
        int before = mask(s.nodes.get(machine).witnesses);
        s.nodes.get(machine).witnesses = chosen;
        return before;
    }

    private Evidence fault(int w, int x) {
        Node node = s.nodes.get(x);
        for (Node holder : s.nodes) {
            for (Auth auth : holder.held) {
                if (!holder.silent && auth.machine == x
                        && (auth.entry >= node.log.size() || node.h(auth.entry + 1) != auth.chain)) {
                    return new Evidence(0, x, w, auth.entry);
                }
            }
        }
        // what the log is due to be: the inputs and receipts as they stand, with the outputs that follow from them
        int m = x;
        Entry owed = null;
        for (int k = 0; k < node.log.size(); k++) {
            Entry e = node.log.get(k);
            if (owed != null) {
                if (!e.equals(owed)) {
                    return new Evidence(1, x, w, k);
                }
                owed = null;
            } else if (e.kind == 2) {
                return new Evidence(1, x, w, k);
            } else {
                m = (31 * m + 17 * e.value + e.peer + 2) % 9973;
                owed = m % 3 == 0 ? new Entry(2, (x + 1 + (m % (n() - 1))) % n(), m % 1000) : null;
            }
        }
        return owed == null ? null : new Evidence(1, x, w, node.log.size());
    }

    private void examine(int w, int x) {
        if (s.verdict[w][x] == 2) {
            return;
        }
        if (s.nodes.get(x).silent) {
            s.verdict[w][x] = 1;
            return;
        }
        Evidence found = fault(w, x);
        if (found != null) {
            s.verdict[w][x] = 2;
            s.evidence.add(found);
            return;
        }
        s.verdict[w][x] = s.nodes.get(x).pending.isEmpty() ? 0 : 1;
    }

    int audit(int witness, int machine) {
        bounds(is(witness) && is(machine));
        allowed(s.nodes.get(machine).witnesses.contains(witness));
        save();
        examine(witness, machine);
        return s.verdict[witness][machine];
    }

    int auditAll() {
        save();
        int changed = 0;
        for (int x = 0; x < n(); x++) {
            for (int w : s.nodes.get(x).witnesses) {
                int before = s.verdict[w][x];
                examine(w, x);
                changed += s.verdict[w][x] == before ? 0 : 1;
            }
        }
        return changed;
    }

    int verdict(int witness, int machine) {
        bounds(is(witness) && is(machine));
        return witness == machine ? 0 : s.verdict[witness][machine];
    }

    int verdictMask(int verdict) {
        argument(0 <= verdict && verdict <= 2);
        List<Integer> found = new ArrayList<>();
        for (int x = 0; x < n(); x++) {
            boolean some = false;
            for (int w : s.nodes.get(x).witnesses) {
                some |= s.verdict[w][x] == verdict;
            }
            if (some) {
                found.add(x);
            }
        }
        return mask(found);
    }

    int evidenceCount() {
        return s.evidence.size();
    }

    int evidence(int index, int what) {
        bounds(0 <= index && index < s.evidence.size());
        argument(0 <= what && what <= 3);
        Evidence e = s.evidence.get(index);
        return new int[] {e.kind, e.machine, e.witness, e.entry}[what];
    }

    int undo() {
        allowed(!saved.isEmpty());
        s = saved.pop();
        return saved.size();
    }

    long digest() {
        List<Long> values = new ArrayList<>();
        add(values, saved.size(), n());
        for (int x = 0; x < n(); x++) {
            Node node = s.nodes.get(x);
            add(values, node.state, node.silent ? 1 : 0, node.liar ? 1 : 0, mask(node.witnesses), node.log.size());
            for (int k = 0; k < node.log.size(); k++) {
                add(values, entry(x, k));
            }
            add(values, node.h(node.log.size()), node.held.size(), node.pending.size());
            for (int w = 0; w < n(); w++) {
                add(values, verdict(w, x));
            }
        }
        add(values, s.queue.size());
        for (Message message : s.queue) {
            add(values, message.receiver, message.value);
        }
        add(values, s.evidence.size());
        for (Evidence e : s.evidence) {
            add(values, e.kind, e.machine, e.witness, e.entry);
        }
        long h = 12833;
        for (long v : values) {
            h = 31 * h + v;
        }
        return h;
    }

    private static void add(List<Long> values, long... more) {
        for (long value : more) {
            values.add(value);
        }
    }
}
