import java.util.ArrayList;
import java.util.List;
import java.util.Set;

/**
 * A PeerAudit that is not used for more than its 512 calls, however much is asked of it: when they are spent, a new
 * object takes its place, after the same calls but for those that only ask. So a test may look at everything, and
 * still demands nothing that the document does not promise.
 */
final class Subject {
    static final int MOST_CALLS = 512;
    private static final Set<String> ASKING = Set.of("queued", "state", "pending", "logLength", "entry", "chain", "held",
        "authenticator", "verdict", "verdictMask", "evidenceCount", "evidence", "digest");

    /** The calls that a new object must make again; those that threw are among them, as they must change nothing. */
    private final List<Call> past = new ArrayList<>();
    private PeerAudit object = new PeerAudit();
    private int calls = 0;

    /** Another one after the same calls. */
    Subject again() {
        Subject other = new Subject();
        other.past.addAll(past);
        other.renew();
        return other;
    }

    String answer(String written) {
        return answer(Call.written(written));
    }

    String answer(Call call) {
        String answer = call.answer(next());
        if (!ASKING.contains(call.method().getName()) || answer.startsWith("throws")) {
            past.add(call);
        }
        return answer;
    }

    /** The answer of a call that only asks, which no new object makes again. */
    String look(Call call) {
        return call.answer(next());
    }

    private PeerAudit next() {
        if (calls == MOST_CALLS) {
            renew();
        }
        calls++;
        return object;
    }

    private void renew() {
        if (past.size() >= MOST_CALLS) {
            throw new IllegalStateException("a test uses an object for more than 512 calls");
        }
        object = new PeerAudit();
        calls = past.size();
        for (Call call : past) {
            call.answer(object);
        }
    }

    // ---- the calls that only ask

    int queued() {
        return next().queued();
    }

    int state(int machine) {
        return next().state(machine);
    }

    int pending(int machine) {
        return next().pending(machine);
    }

    int logLength(int machine) {
        return next().logLength(machine);
    }

    int entry(int machine, int entry) {
        return next().entry(machine, entry);
    }

    int chain(int machine, int index) {
        return next().chain(machine, index);
    }

    int held(int machine) {
        return next().held(machine);
    }

    int authenticator(int machine, int index, int what) {
        return next().authenticator(machine, index, what);
    }

    int verdict(int witness, int machine) {
        return next().verdict(witness, machine);
    }

    int verdictMask(int verdict) {
        return next().verdictMask(verdict);
    }

    int evidenceCount() {
        return next().evidenceCount();
    }

    int evidence(int index, int what) {
        return next().evidence(index, what);
    }

    long digest() {
        return next().digest();
    }
}
