import java.lang.reflect.InvocationTargetException;
import java.lang.reflect.Method;
import java.util.ArrayList;
import java.util.HashMap;
import java.util.List;
import java.util.Map;

/**
 * Calls on one new PeerAudit, written as the document writes its examples: "call = answer; call = answer", with
 * "throws E" as the answer of a call that must throw E. Every answer that is not as due is printed and counted.
 */
final class Script {
    static final String INDEX = "IndexOutOfBoundsException";
    static final String ARGUMENT = "IllegalArgumentException";
    static final String STATE = "IllegalStateException";

    private static final Map<String, Method> FACE = face();
    private static int wrong = 0;

    final PeerAudit object = new PeerAudit();
    private final String title;
    /** The calls that did not throw. */
    private final List<String> history = new ArrayList<>();

    Script(String title) {
        this.title = title;
    }

    /** Ends the program: with exit code 1 if an answer was not as due. */
    static void end() {
        System.out.println(wrong == 0 ? "all answers are as due" : wrong + " answers are not as due");
        if (wrong != 0) {
            System.exit(1);
        }
    }

    // ---- calls with the answers that are due

    Script calls(String text) {
        for (String piece : text.split(";")) {
            String call = piece.replaceAll("\\s+", " ").trim();
            if (!call.isEmpty()) {
                int sign = call.indexOf('=');
                due(call.substring(0, sign).trim(), call.substring(sign + 1).trim());
            }
        }
        return this;
    }

    void due(String call, String want) {
        String got = answer(call);
        if (!got.equals(want)) {
            report(call, got, want);
        }
    }

    /** The answer of a call, or "throws E". */
    String answer(String call) {
        String answer = answer(object, call);
        if (!answer.startsWith("throws")) {
            history.add(call);
        }
        return answer;
    }

    void same(String what, long got, long want) {
        if (got != want) {
            report(what, Long.toString(got), Long.toString(want));
        }
    }

    void same(String what, String got, String want) {
        if (!got.equals(want)) {
            report(what, got, want);
        }
    }

    /** Calls that must throw, and change nothing that can be asked for. */
    Script throwing(String exception, String... calls) {
        for (String call : calls) {
            String before = View.of(object);
            due(call, "throws " + exception);
            same(call + " changes nothing", View.of(object), before);
        }
        return this;
    }

    /**
     * Calls that must throw, and change nothing, neither what can be asked for nor what only later calls show: the undo
     * stack and the messages. All calls before must have been made by this script, as they are made again on new objects.
     */
    Script refused(String exception, String... calls) {
        for (String call : calls) {
            throwing(exception, call);
            same(call + " leaves the undo stack", View.ofPast(again(call)), View.ofPast(again()));
            same(call + " leaves the messages", View.ofMessages(again(call)), View.ofMessages(again()));
        }
        return this;
    }

    /** The call made now and undone: the undo stack, if it has a place, and the messages are as if it had not been. */
    void undone(String call) {
        same(call + " undone leaves the undo stack", View.ofPast(again(call, "undo()")), View.ofPast(again()));
        same(call + " undone leaves the messages", View.ofMessages(again(call, "undo()")), View.ofMessages(again()));
    }

    /** A new object after the calls of this script that did not throw, and then those given. */
    PeerAudit again(String... more) {
        PeerAudit other = new PeerAudit();
        for (String call : history) {
            answer(other, call);
        }
        for (String call : more) {
            answer(other, call);
        }
        return other;
    }

    private void report(String call, String got, String want) {
        wrong++;
        System.out.println(title + ": " + call + " answered " + got + ", due is " + want);
    }

    // ---- inputs that lead to what a test needs

    /** Lets a machine take an input after which it sends a message to another one. */
    Script speak(int machine, int to) {
        int n = View.machines(object);
        int places = Math.floorMod(to - machine, n);
        int v = valueFor(n, object.state(machine), places);
        return take(machine, v);
    }

    /** Lets a machine take an input after which it has no output. */
    Script keepStill(int machine) {
        int v = 0;
        while (after(object.state(machine), v) % 3 == 0) {
            v++;
        }
        return take(machine, v);
    }

    /** Lets a machine take two inputs, the first one without an output, after which it is in this state. */
    Script lead(int machine, int state) {
        for (int v = 0; v < 1000; v++) {
            int between = after(object.state(machine), v);
            for (int w = 0; w < 1000 && between % 3 != 0; w++) {
                if (after(between, w) == state) {
                    return take(machine, v).take(machine, w);
                }
            }
        }
        throw new IllegalStateException("no such values");
    }

    private Script take(int machine, int v) {
        due("input(" + machine + ", " + v + ")", Integer.toString(after(object.state(machine), v)));
        return this;
    }

    /** An input after which a machine in this state sends a message to the machine that is so many places further. */
    static int valueFor(int n, int state, int places) {
        for (int v = 0; v < 1000; v++) {
            int m = after(state, v);
            if (m % 3 == 0 && 1 + m % (n - 1) == places) {
                return v;
            }
        }
        throw new IllegalStateException("no such value");
    }

    /** The state after an input. */
    private static int after(int state, int v) {
        return (31 * state + 17 * v + 1) % 9973;
    }

    /** 40 messages are pending for machine 2 of 3, which is silent; the logs of the others are empty. */
    static Script fortyPending(String title) {
        Script s = fortyQueued(title);
        return s.calls("setSilent(2, true) = 0; run(100) = 40; pending(2) = 40; queued() = 0; cut(0, 40) = 0; cut(1, 40) = 0");
    }

    /** 40 messages for machine 2 of 3 are in the queue; the logs of the others are full. */
    static Script fortyQueued(String title) {
        Script s = new Script(title);
        for (int i = 0; i < 20; i++) {
            s.speak(0, 2).speak(1, 2);
        }
        return s.calls("queued() = 40; logLength(0) = 40; logLength(1) = 40");
    }

    // ---- the document's sums, in plain numbers

    static long chained(long before, int kind, int peer, int value) {
        return (before * 1000003L + 7L * kind + 31L * (peer + 1) + 257L * value) % 2147483647L;
    }

    static long folded(long... values) {
        long h = 12833;
        for (long value : values) {
            h = 31 * h + value;
        }
        return h;
    }

    // ---- how a written call becomes a call

    private static Map<String, Method> face() {
        Map<String, Method> found = new HashMap<>();
        for (Method method : PeerAudit.class.getDeclaredMethods()) {
            found.put(method.getName() + method.getParameterCount(), method);
        }
        return found;
    }

    private static String answer(PeerAudit object, String call) {
        int open = call.indexOf('(');
        String inside = call.substring(open + 1, call.lastIndexOf(')')).trim();
        String[] parts = inside.isEmpty() ? new String[0] : inside.split(",");
        Method method = FACE.get(call.substring(0, open) + parts.length);
        return method == null ? "no such method" : invoke(object, method, parts);
    }

    private static String invoke(PeerAudit object, Method method, String[] parts) {
        Object[] arguments = new Object[parts.length];
        for (int i = 0; i < parts.length; i++) {
            String part = parts[i].trim();
            if (method.getParameterTypes()[i] == boolean.class) {
                arguments[i] = Boolean.valueOf(part);
            } else {
                arguments[i] = Integer.valueOf(part);
            }
        }
        try {
            return String.valueOf(method.invoke(object, arguments));
        } catch (InvocationTargetException e) {
            return "throws " + e.getCause().getClass().getSimpleName();
        } catch (IllegalAccessException e) {
            return "not public";
        }
    }
}
