import java.lang.reflect.InvocationTargetException;
import java.lang.reflect.Method;
import java.lang.reflect.Modifier;
import java.util.Arrays;
import java.util.LinkedHashMap;
import java.util.Map;
import java.util.Random;
import java.util.TreeMap;

/**
 * Long runs of calls, drawn from fixed seeds, on PeerAudit and on the Model side by side. Each answer must be the same;
 * in the runs with looks the digests after each call, too, and at times all that can be asked for; the runs without them
 * use one object for all of its 512 calls. The edges of the document are counted, and the test fails if the runs do not
 * come to one of them.
 */
public final class ModelTest {
    /** The last one of all calls is digest(). */
    private static final int DRAWN_CALLS = Subject.MOST_CALLS - 1;
    /** Fewer, as an object that is made anew for looks has made all these calls first. */
    private static final int DRAWN_CALLS_WITH_LOOKS = 400;
    private static final int RUNS_OF_EACH_KIND = 20;
    /** How often each method is called, by the kind of the run. */
    private static final String[] KINDS = {
        // all methods alike
        "reset 1 input 12 deliver 6 run 4 queued 1 state 1 setSilent 4 pending 1 resend 3 lie 2 tamper 2 cut 2"
            + " logLength 1 entry 1 chain 1 held 1 authenticator 1 setWitnesses 2 audit 6 auditAll 2 verdict 1"
            + " verdictMask 2 evidenceCount 1 evidence 2 undo 5 digest 1",
        // logs and the queue become full
        "input 60 deliver 4 run 1 setSilent 3 resend 3 cut 3 auditAll 1 undo 4 lie 1",
        // many deliveries, with logs that are cut again: many authenticators, many mismatches
        "input 40 deliver 30 run 10 cut 12 setSilent 1 resend 2 audit 3 auditAll 1 undo 2",
        // silent machines: many pending messages
        "input 60 run 20 setSilent 5 resend 4 cut 18 audit 4 auditAll 1 verdictMask 2 undo 2",
        // honest machines with few faults, much auditing
        "input 20 deliver 10 run 3 lie 1 tamper 1 audit 20 auditAll 4 setWitnesses 3 verdict 5 verdictMask 5 evidence 5"
            + " evidenceCount 2 undo 1 setSilent 2 resend 2",
        // undo above all
        "reset 2 input 10 deliver 4 run 3 setSilent 2 resend 2 lie 2 tamper 2 cut 2 setWitnesses 2 audit 2 auditAll 2"
            + " undo 25",
    };
    private static final String[] EDGES = {
        "input throws IndexOutOfBoundsException", "input throws IllegalArgumentException",
        "input throws IllegalStateException", "deliver throws IllegalStateException", "deliver of an empty queue",
        "resend throws IllegalStateException", "undo throws IllegalStateException", "cut throws IllegalArgumentException",
        "setWitnesses throws IllegalArgumentException", "audit throws IllegalStateException",
        "a log of 39", "a log of 40", "a queue of 40", "40 pending", "60 held", "evidence MISMATCH", "evidence REPLAY",
        "4 saved states", "6 machines", "2 machines", "run stopped by a machine without room", "a lost message",
    };

    private static final Map<String, Method> TOLD = methodsOfTheModel();
    private static final Map<String, Integer> EDGE_COUNTS = new TreeMap<>();
    private static int wrong = 0;

    private final Random random;
    private final boolean withLooks;
    private final Subject real = new Subject();
    private final Model told = new Model();
    private final StringBuilder history = new StringBuilder();

    private ModelTest(long seed, boolean withLooks) {
        random = new Random(seed);
        this.withLooks = withLooks;
    }

    public static void main(String[] args) {
        for (int kind = 0; kind < KINDS.length; kind++) {
            Map<String, Integer> weights = weights(KINDS[kind]);
            for (int run = 0; run < RUNS_OF_EACH_KIND && wrong < 5; run++) {
                new ModelTest(1000L * kind + run, true).walk(weights, DRAWN_CALLS_WITH_LOOKS);
                new ModelTest(1000L * kind + 500 + run, false).walk(weights, DRAWN_CALLS);
            }
        }
        for (String edge : EDGES) {
            if (!EDGE_COUNTS.containsKey(edge)) {
                wrong++;
                System.out.println("no run came to this edge: " + edge);
            }
        }
        System.out.println(wrong == 0 ? "the class and the model agree" : wrong + " faults");
        if (wrong != 0) {
            System.exit(1);
        }
    }

    private void walk(Map<String, Integer> weights, int calls) {
        int n = random.nextInt(6) + 1;
        if (!step("reset", n)) {
            return;
        }
        for (int i = 1; i < calls; i++) {
            String name = draw(weights);
            if (!step(name, arguments(name)) || withLooks && i % 16 == 0 && !lookAtAll()) {
                return;
            }
        }
        if (withLooks) {
            lookAtAll();
        } else {
            look("digest");
        }
    }

    private String draw(Map<String, Integer> weights) {
        int all = 0;
        for (int weight : weights.values()) {
            all += weight;
        }
        int left = random.nextInt(all);
        for (Map.Entry<String, Integer> pair : weights.entrySet()) {
            left -= pair.getValue();
            if (left < 0) {
                return pair.getKey();
            }
        }
        return "queued";
    }

    /** Mostly good arguments, now and then any others. */
    private Object[] arguments(String name) {
        int machine = machine();
        switch (name) {
            case "reset":
                return new Object[] {random.nextInt(9)};
            case "input":
                return new Object[] {machine, random.nextInt(3) == 0 ? value() : speakingValue(machine)};
            case "run":
                return new Object[] {random.nextInt(8) == 0 ? odd() : 1 + random.nextInt(random.nextBoolean() ? 5 : 100)};
            case "setSilent":
                return new Object[] {machine, random.nextInt(5) < 2};
            case "tamper":
                return new Object[] {machine, within(length(machine)), value()};
            case "cut":
                return new Object[] {machine, random.nextInt(3) == 0 ? length(machine) : within(6)};
            case "entry":
            case "chain":
                return new Object[] {machine, within(length(machine) + 1)};
            case "authenticator":
                return new Object[] {machine, within(told.queued() + 10), within(3)};
            case "setWitnesses":
                return new Object[] {machine, random.nextInt(6) == 0 ? odd() : random.nextInt(64) & ~(1 << machine)};
            case "audit":
            case "verdict":
                return new Object[] {machine(), machine};
            case "verdictMask":
                return new Object[] {within(3)};
            case "evidence":
                return new Object[] {within(told.evidenceCount()), within(4)};
            default:
                return TOLD.get(name).getParameterCount() == 0 ? new Object[0] : new Object[] {machine};
        }
    }

    private int machine() {
        return random.nextInt(40) == 0 ? odd() : random.nextInt(count());
    }

    private int count() {
        int n = 2;
        while (n < 6 && told("state", n).indexOf("throws") < 0) {
            n++;
        }
        return n;
    }

    private int length(int machine) {
        String answer = told("logLength", machine);
        return answer.startsWith("throws") ? 3 : Integer.parseInt(answer);
    }

    private int value() {
        return random.nextInt(30) == 0 ? odd() : random.nextInt(1000);
    }

    /** A value after which the machine has an output. */
    private int speakingValue(int machine) {
        String state = told("state", machine);
        int value = random.nextInt(1000);
        for (int i = 0; i < 1000 && !state.startsWith("throws"); i++) {
            int v = (value + i) % 1000;
            if ((31 * Integer.parseInt(state) + 17 * v + 1) % 9973 % 3 == 0) {
                return v;
            }
        }
        return value;
    }

    private int within(int bound) {
        return bound <= 0 || random.nextInt(15) == 0 ? odd() : random.nextInt(bound);
    }

    private int odd() {
        int[] some = {-1, -2, 0, 1, 2, 3, 4, 5, 6, 7, 8, 39, 40, 41, 60, 63, 64, 100, 101, 999, 1000, -1000,
            Integer.MAX_VALUE, Integer.MIN_VALUE};
        return random.nextInt(4) == 0 ? random.nextInt() : some[random.nextInt(some.length)];
    }

    private boolean step(String name, Object... arguments) {
        boolean willBeLost = name.equals("deliver") && fullReceiver();
        String due = told(name, arguments);
        String got = real.answer(Call.of(name, arguments));
        history.append(name).append(Arrays.toString(arguments)).append(" = ").append(due).append("\n");
        countEdges(name, due, arguments);
        if (willBeLost && !due.startsWith("throws")) {
            edge("a lost message");
        }
        return same(name + Arrays.toString(arguments), got, due) && (!withLooks || look("digest"));
    }

    private boolean fullReceiver() {
        int receiver = told.firstReceiver();
        return receiver >= 0 && told.isSilent(receiver) && told.pending(receiver) == 40;
    }

    private boolean lookAtAll() {
        int n = count();
        for (int x = 0; x < n; x++) {
            for (int k = -1; k <= 41; k++) {
                if (!look("entry", x, k) || !look("chain", x, k)) {
                    return false;
                }
            }
            for (int i = -1; i <= 60; i++) {
                if (!look("authenticator", x, i, 0) || !look("authenticator", x, i, 1) || !look("authenticator", x, i, 2)) {
                    return false;
                }
            }
            for (int w = 0; w < n; w++) {
                if (!look("verdict", w, x)) {
                    return false;
                }
            }
            if (!look("state", x) || !look("pending", x) || !look("held", x) || !look("logLength", x)) {
                return false;
            }
        }
        boolean good = look("queued") && look("evidenceCount") && look("state", n) && look("state", -1);
        for (int v = -1; v <= 3; v++) {
            good = good && look("verdictMask", v);
        }
        for (int i = -1; i <= told.evidenceCount(); i++) {
            for (int what = -1; what <= 4; what++) {
                good = good && look("evidence", i, what);
            }
        }
        return good;
    }

    private boolean look(String name, Object... arguments) {
        return same(name + Arrays.toString(arguments), real.look(Call.of(name, arguments)), told(name, arguments));
    }

    private boolean same(String what, String got, String due) {
        if (got.equals(due)) {
            return true;
        }
        wrong++;
        System.out.println(history + what + " answered " + got + ", due is " + due);
        return false;
    }

    private void countEdges(String name, String answer, Object[] arguments) {
        if (answer.startsWith("throws")) {
            edge(name + " " + answer);
        }
        if (name.equals("deliver") && answer.equals("-1")) {
            edge("deliver of an empty queue");
        }
        int n = count();
        edge(n + " machines");
        for (int x = 0; x < n; x++) {
            edge("a log of " + told.logLength(x));
            edge(told.pending(x) + " pending");
            edge(told.held(x) + " held");
        }
        edge("a queue of " + told.queued());
        if (told.evidenceCount() > 0) {
            edge(told.evidence(told.evidenceCount() - 1, 0) == 0 ? "evidence MISMATCH" : "evidence REPLAY");
        }
        if (name.equals("undo") && answer.equals("3")) {
            edge("4 saved states");
        }
        if (name.equals("run") && told.queued() > 0 && !answer.startsWith("throws") && !answer.equals("" + arguments[0])) {
            edge("run stopped by a machine without room");
        }
    }

    private static void edge(String name) {
        EDGE_COUNTS.merge(name, 1, Integer::sum);
    }

    /** What the model answers, or "throws E". */
    private String told(String name, Object... arguments) {
        try {
            return String.valueOf(TOLD.get(name).invoke(told, arguments));
        } catch (InvocationTargetException e) {
            return "throws " + e.getCause().getClass().getSimpleName();
        } catch (IllegalAccessException e) {
            return "not to be called";
        }
    }

    private static Map<String, Method> methodsOfTheModel() {
        Map<String, Method> found = new LinkedHashMap<>();
        for (Method method : Model.class.getDeclaredMethods()) {
            if (!Modifier.isPrivate(method.getModifiers())) {
                found.put(method.getName(), method);
            }
        }
        return found;
    }

    private static Map<String, Integer> weights(String text) {
        Map<String, Integer> found = new LinkedHashMap<>();
        String[] words = text.split(" ");
        for (int i = 0; i + 1 < words.length; i += 2) {
            found.put(words[i], Integer.valueOf(words[i + 1]));
        }
        return found;
    }
}
