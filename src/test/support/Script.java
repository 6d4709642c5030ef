/**
 * Calls on one new PeerAudit, written as the document writes its examples: "call = answer; call = answer", with
 * "throws E" as the answer of a call that must throw E. Every answer that is not as due is printed and counted.
 */
final class Script {
    static final String INDEX = "IndexOutOfBoundsException";
    static final String ARGUMENT = "IllegalArgumentException";
    static final String STATE = "IllegalStateException";

    private static int wrong = 0;

    final Subject object = new Subject();
    private final String title;

    Script(String title) {
        this.title = title;
    }

    /** Ends the program: with exit code 1 if an answer was not as due. */
    static void end() {
        System.out.println(wrong == 0 ? "all answers are as due" : wrong + " answers are not as due");
        if (wrong != 0) {
            System.exit(1);
        }
    }

    // ---- calls with the answers that are due

    Script calls(String text) {
        for (String piece : text.split(";")) {
            String call = piece.replaceAll("\\s+", " ").trim();
            if (!call.isEmpty()) {
                int sign = call.indexOf('=');
                due(call.substring(0, sign).trim(), call.substring(sign + 1).trim());
            }
        }
        return this;
    }

    void due(String call, String want) {
        String got = answer(call);
        if (!got.equals(want)) {
            report(call, got, want);
        }
    }

    /** The answer of a call, or "throws E". */
    String answer(String call) {
        return object.answer(call);
    }

    void same(String what, long got, long want) {
        if (got != want) {
            report(what, Long.toString(got), Long.toString(want));
        }
    }

    void same(String what, String got, String want) {
        if (!got.equals(want)) {
            report(what, got, want);
        }
    }

    /** Calls that must throw, and change nothing that can be asked for. */
    Script throwing(String exception, String... calls) {
        for (String call : calls) {
            String before = View.of(object);
            due(call, "throws " + exception);
            same(call + " changes nothing", View.of(object), before);
        }
        return this;
    }

    /**
     * Calls that must throw, and change nothing, neither what can be asked for nor what only later calls show: the undo
     * stack and the messages. These are looked at on new objects after the same calls, as the look uses them up.
     */
    Script refused(String exception, String... calls) {
        for (String call : calls) {
            String past = View.ofPast(object.again());
            String messages = View.ofMessages(object.again());
            throwing(exception, call);
            same(call + " leaves the undo stack", View.ofPast(object.again()), past);
            same(call + " leaves the messages", View.ofMessages(object.again()), messages);
        }
        return this;
    }

    /** The call made now and undone: the undo stack, if it has a place, and the messages are as if it had not been. */
    void undone(String call) {
        same(call + " undone leaves the undo stack", View.ofPast(again(call, "undo()")), View.ofPast(again()));
        same(call + " undone leaves the messages", View.ofMessages(again(call, "undo()")), View.ofMessages(again()));
    }

    /** A new object after the calls of this script, and then those given. */
    Subject again(String... more) {
        Subject other = object.again();
        for (String call : more) {
            other.answer(call);
        }
        return other;
    }

    private void report(String call, String got, String want) {
        wrong++;
        System.out.println(title + ": " + call + " answered " + got + ", due is " + want);
    }

    // ---- inputs that lead to what a test needs

    /** Lets a machine take an input after which it sends a message to another one. */
    Script speak(int machine, int to) {
        int n = View.machines(object);
        int places = Math.floorMod(to - machine, n);
        int v = valueFor(n, object.state(machine), places);
        return take(machine, v);
    }

    /** Lets a machine take an input after which it has no output. */
    Script keepStill(int machine) {
        int v = 0;
        while (after(object.state(machine), v) % 3 == 0) {
            v++;
        }
        return take(machine, v);
    }

    /** Lets a machine take two inputs, the first one without an output, after which it is in this state. */
    Script lead(int machine, int state) {
        for (int v = 0; v < 1000; v++) {
            int between = after(object.state(machine), v);
            for (int w = 0; w < 1000 && between % 3 != 0; w++) {
                if (after(between, w) == state) {
                    return take(machine, v).take(machine, w);
                }
            }
        }
        throw new IllegalStateException("no such values");
    }

    private Script take(int machine, int v) {
        due("input(" + machine + ", " + v + ")", Integer.toString(after(object.state(machine), v)));
        return this;
    }

    /** An input after which a machine in this state sends a message to the machine that is so many places further. */
    static int valueFor(int n, int state, int places) {
        for (int v = 0; v < 1000; v++) {
            int m = after(state, v);
            if (m % 3 == 0 && 1 + m % (n - 1) == places) {
                return v;
            }
        }
        throw new IllegalStateException("no such value");
    }

    /** The state after an input. */
    private static int after(int state, int v) {
        return (31 * state + 17 * v + 1) % 9973;
    }

    /** 40 messages are pending for machine 2 of 3, which is silent; the logs of the others are empty. */
    static Script fortyPending(String title) {
        Script s = fortyQueued(title);
        return s.calls("setSilent(2, true) = 0; run(100) = 40; pending(2) = 40; queued() = 0; cut(0, 40) = 0; cut(1, 40) = 0");
    }

    /** 40 messages for machine 2 of 3 are in the queue; the logs of the others are full. */
    static Script fortyQueued(String title) {
        Script s = new Script(title);
        for (int i = 0; i < 20; i++) {
            s.speak(0, 2).speak(1, 2);
        }
        return s.calls("queued() = 40; logLength(0) = 40; logLength(1) = 40");
    }

    // ---- the document's sums, in plain numbers

    static long chained(long before, int kind, int peer, int value) {
        return (before * 1000003L + 7L * kind + 31L * (peer + 1) + 257L * value) % 2147483647L;
    }

    static long folded(long... values) {
        long h = 12833;
        for (long value : values) {
            h = 31 * h + value;
        }
        return h;
    }
}
