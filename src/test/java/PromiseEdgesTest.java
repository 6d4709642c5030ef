import java.math.BigInteger;
import java.util.ArrayList;
import java.util.List;

/**
 * The boundary cases that the promises 1 to 27 name: the range of each argument, with the last value that is allowed and
 * the first one that is not on both sides, what is returned where there is nothing, and when a call throws.
 */
public final class PromiseEdgesTest {
    private static final String INDEX = Script.INDEX;
    private static final String ARGUMENT = Script.ARGUMENT;
    private static final String STATE = Script.STATE;
    private static final int LEAST = Integer.MIN_VALUE;
    private static final int GREATEST = Integer.MAX_VALUE;

    public static void main(String[] args) {
        machineNumbers();
        machineNumbersAfterResetAndUndo();
        promise1();
        promise2Range();
        promise2Anew();
        promise2TheUndoStackStays();
        promise3Values();
        promise3SilentOrNot();
        promise4EmptyQueue();
        promise4NoRoom();
        promise5Range();
        promise5UntilTheQueueIsEmpty();
        promise5UntilThereIsNoRoom();
        promise5SoManyMessages();
        promise5AHundredMessages();
        promise5PendingAndLostCount();
        promise6();
        promise7();
        promise8And9();
        promise10QueueOf40();
        promise10NothingPending();
        promise11();
        promise12();
        promise13();
        promise14();
        promise15();
        promise16();
        promise17();
        promise18();
        promise19Masks();
        promise19VerdictsAreKept();
        promise20();
        promise21();
        promise22();
        promise23();
        promise24();
        promise25();
        promise26();
        promise27();
        Script.end();
    }

    // ---- "if there is no such machine", for every method that takes the number of one

    private static final String[] OF_A_MACHINE = {"input(#, 1)", "state(#)", "setSilent(#, true)", "setSilent(#, false)",
        "pending(#)",
        "resend(#)", "lie(#)", "tamper(#, 0, 1)", "cut(#, 1)", "logLength(#)", "entry(#, 0)", "chain(#, 0)", "held(#)",
        "authenticator(#, 0, 0)", "setWitnesses(#, 0)", "audit(#, 1)", "audit(1, #)", "verdict(#, 1)", "verdict(1, #)"};

    private static void machineNumbers() {
        for (int n = 2; n <= 6; n++) {
            for (String call : OF_A_MACHINE) {
                Script s = talk("no such machine, of " + n, n);
                for (int machine : new int[] {-1, n, n + 1, LEAST, GREATEST}) {
                    s.refused(INDEX, call.replace("#", "" + machine));
                }
                for (int machine = 0; machine < n; machine++) {
                    // nobody is a witness of itself
                    if (machine != 1 || !call.startsWith("audit")) {
                        String good = call.replace("#", "" + machine);
                        s.same(good + " does not throw", s.answer(good).startsWith("throws") ? 1 : 0, 0);
                    }
                }
            }
        }
    }

    /** Every machine has sent a message to the next one, which has received it. */
    private static Script talk(String title, int n) {
        Script s = new Script(title);
        s.answer("reset(" + n + ")");
        for (int x = 0; x < n; x++) {
            s.speak(x, (x + 1) % n);
            s.answer("run(100)");
        }
        for (int x = 0; x < n; x++) {
            s.same("the log of " + x, s.object.logLength(x) > 0 ? 1 : 0, 1);
            s.same("what is held by " + x, s.object.held(x) > 0 ? 1 : 0, 1);
        }
        return s;
    }

    /** Which machines there are goes with the state, not with the object. */
    private static void machineNumbersAfterResetAndUndo() {
        Script s = new Script("no such machine any more").calls("reset(6) = 3; input(5, 1) = 173; reset(2) = 6");
        for (String call : OF_A_MACHINE) {
            s.refused(INDEX, call.replace("#", "2"), call.replace("#", "5"));
        }
        s.calls("undo() = 2; state(5) = 173; undo() = 1; state(5) = 5; undo() = 0; state(2) = 2")
            .refused(INDEX, "state(3)", "state(5)");
    }

    // ---- each promise

    private static void promise1() {
        Script s = new Script("promise 1, a new object").calls("queued() = 0; evidenceCount() = 0; verdictMask(0) = 7;"
            + "verdictMask(1) = 0; verdictMask(2) = 0");
        for (int x = 0; x < 3; x++) {
            s.calls("state(#) = #; logLength(#) = 0; chain(#, 0) = 1; held(#) = 0; pending(#) = 0".replace("#", "" + x));
            s.refused(INDEX, "entry(" + x + ", 0)", "chain(" + x + ", 1)", "authenticator(" + x + ", 0, 0)");
        }
        s.refused(STATE, "undo()").refused(INDEX, "evidence(0, 0)", "state(3)").calls("deliver() = -1");
        // nothing of another object is to be seen
        new Script("promise 1, one object").calls("reset(6) = 3; input(0, 1) = 18; lie(1) = false");
        s.same("a new object beside another one", View.of(new Subject()), View.of(s.object));
    }

    private static void promise2Range() {
        Script s = new Script("promise 2, n: 2 to 6");
        int previous = 3;
        for (int n : new int[] {2, 3, 4, 5, 6, 6, 2, 2, 6, 3}) {
            s.calls("reset(" + n + ") = " + previous + "; state(" + (n - 1) + ") = " + (n - 1))
                .refused(INDEX, "state(" + n + ")");
            previous = n;
        }
        s.refused(ARGUMENT, "reset(1)", "reset(0)", "reset(-1)", "reset(7)", "reset(8)", "reset(" + LEAST + ")", "reset("
            + GREATEST + ")");
    }

    private static void promise2Anew() {
        for (int n = 2; n <= 6; n++) {
            // both have four states on the stack, so the digests can be compared, too
            Script fresh = new Script("a fresh one").calls("auditAll() = 0; auditAll() = 0; auditAll() = 0; reset(" + n
                + ") = 3");
            Script used = talk("promise 2, begins anew", 6).calls("setSilent(0, true) = 0; lie(0) = false; lie(1) = false")
                .speak(5, 0).speak(5, 1);
            used.calls("setWitnesses(1, 1) = 61; run(1) = 1; pending(0) = 1; queued() = 1");
            used.calls("tamper(1, 0, 999) = " + used.object.entry(1, 0) % 10000 + "; auditAll() = 6; evidenceCount() = 1;"
                + "reset(" + n + ") = 6");
            used.same("as new", View.of(used.object), View.of(fresh.object));
            used.same("as new, with what later calls show", View.ofMessages(used.object), View.ofMessages(fresh.object));
        }
    }

    private static void promise2TheUndoStackStays() {
        Script s = new Script("promise 2, The undo stack stays").keepStill(0).keepStill(0).keepStill(0);
        s.calls("reset(2) = 3; undo() = 3; logLength(0) = 3; undo() = 2; logLength(0) = 2; undo() = 1; undo() = 0");
        Script full = new Script("promise 2, with a full stack").keepStill(0).keepStill(0).keepStill(0).keepStill(0);
        full.calls("reset(6) = 3; undo() = 3; logLength(0) = 4; undo() = 2; undo() = 1; undo() = 0; logLength(0) = 1")
            .refused(STATE, "undo()");
    }

    private static void promise3Values() {
        Script s = new Script("promise 3, value: 0 to 999").calls("input(0, 0) = 1; entry(0, 0) = 0; input(1, 999) = " + (32
            + 17 * 999) % 9973 + "; entry(1, 0) = 999");
        s.calls("input(2, 1) = 80; input(0, 998) = " + (31 + 17 * 998 + 1) % 9973);
        s.refused(ARGUMENT, "input(0, -1)", "input(0, 1000)", "input(2, -1)", "input(2, 1000)", "input(0, " + LEAST + ")",
            "input(0, " + GREATEST + ")");
    }

    private static void promise3SilentOrNot() {
        new Script("promise 3, whether it is silent or not").calls("setSilent(0, true) = 0; input(0, 1) = 18; state(0) = 18;"
            + "logLength(0) = 2; queued() = 1;"
            + "setSilent(0, false) = 0; input(0, 2) = 593; logLength(0) = 3");
    }

    private static void promise4EmptyQueue() {
        Script s = new Script("promise 4, NONE if the queue is empty (then nothing is saved)").calls("deliver() = -1")
            .refused(STATE, "undo()");
        s.calls("input(0, 2) = 35; deliver() = -1; deliver() = -1; undo() = 0; state(0) = 0").refused(STATE, "undo()");
        // with a full stack nothing is dropped by it
        s.keepStill(0).keepStill(0).keepStill(0).keepStill(0)
            .calls("deliver() = -1; undo() = 3; undo() = 2; undo() = 1; undo() = 0; logLength(0) = 0");
        // the last message, and then none
        Script last = new Script("promise 4, the last message").speak(0, 1)
            .calls("setSilent(1, true) = 0; queued() = 1; deliver() = 1; queued() = 0; deliver() = -1");
        last.calls("pending(1) = 1; deliver() = -1; undo() = 2; queued() = 1");
    }

    private static void promise4NoRoom() {
        Script s = new Script("promise 4, if the receiver is not silent and has no room").speak(1, 0).speak(1, 2);
        for (int i = 0; i < 38; i++) {
            s.keepStill(0);
        }
        s.calls("deliver() = 0; undo() = 3; logLength(0) = 38").keepStill(0).calls("logLength(0) = 39")
            .refused(STATE, "deliver()");
        s.calls("setSilent(0, true) = 0; deliver() = 0; pending(0) = 1; deliver() = 2; undo() = 3; undo() = 2; undo() = 1")
            .refused(STATE, "deliver()");
        s.calls("cut(0, 1) = 38; deliver() = 0");
        // a sender without room is no hindrance
        Script sender = new Script("promise 4, the sender has no room");
        for (int i = 0; i < 20; i++) {
            sender.speak(0, 1);
        }
        sender.calls("logLength(0) = 40; deliver() = 1; held(0) = 1");
    }

    private static void promise5Range() {
        Script s = new Script("promise 5, most: 1 to 100").calls("run(1) = 0; run(100) = 0; run(99) = 0; run(2) = 0")
            .speak(0, 1).calls("run(1) = 1");
        s.refused(ARGUMENT, "run(0)", "run(-1)", "run(101)", "run(102)", "run(" + LEAST + ")", "run(" + GREATEST + ")");
        s.calls("undo() = 3; queued() = 1");
    }

    private static void promise5UntilTheQueueIsEmpty() {
        Script s = new Script("promise 5, until the queue is empty").calls("run(100) = 0; undo() = 0").refused(STATE, "undo()");
        s.calls("setSilent(1, true) = 0").speak(0, 1).speak(0, 1)
            .calls("run(100) = 2; queued() = 0; run(100) = 0; undo() = 3; undo() = 2; queued() = 2");
    }

    private static void promise5UntilThereIsNoRoom() {
        // the second message is for machine 0, which has no room; the third one is not delivered before it
        Script s = new Script("promise 5, until the receiver is not silent and has no room").calls("setSilent(2, true) = 0")
            .speak(1, 2).speak(1, 0).speak(1, 2);
        for (int i = 0; i < 39; i++) {
            s.keepStill(0);
        }
        s.calls("run(100) = 1; queued() = 2; run(100) = 0; queued() = 2; undo() = 3; run(1) = 0; pending(2) = 1; cut(0, 1) = 38");
        s.calls("deliver() = 0; undo() = 3; undo() = 2; setSilent(0, true) = 0; run(100) = 2; pending(0) = 1; pending(2) = 2;"
            + "queued() = 0");
    }

    private static void promise5SoManyMessages() {
        for (int most : new int[] {1, 2, 39, 40, 41, 100}) {
            Script s = Script.fortyQueued("promise 5, so many messages").calls("setSilent(2, true) = 0");
            int delivered = most < 40 ? most : 40;
            s.calls("run(" + most + ") = " + delivered + "; pending(2) = " + delivered + "; queued() = " + (40 - delivered));
            s.calls("undo() = 3; pending(2) = 0; queued() = 40");
        }
    }

    /**
     * 123 deliveries follow one another: the states of the six machines were sought so that nearly all of the 39 messages,
     * sent by these senders to machine 0, then to machine 1 and so on, lead to an output.
     */
    private static void promise5AHundredMessages() {
        String[] senders = {"1234512", "0034502", "1345013", "245012", "350123", "440123"};
        int[] states = {9931, 9688, 4526, 454, 9568, 977};
        Script s = new Script("promise 5, a hundred messages").calls("reset(6) = 3");
        for (int to = 0; to < 6; to++) {
            for (char sender : senders[to].toCharArray()) {
                s.speak(sender - '0', to);
            }
        }
        for (int x = 0; x < 6; x++) {
            s.lead(x, states[x]);
            s.calls("cut(" + x + ", " + s.object.logLength(x) + ") = 0");
        }
        s.calls("queued() = 39; run(99) = 99; run(100) = 24; queued() = 0; undo() = 3; undo() = 2; queued() = 39");
        String before = View.of(s.object);
        s.calls("run(100) = 100");
        s.same("messages are left", s.object.queued() > 0 ? 1 : 0, 1);
        s.calls("run(100) = 23; queued() = 0; undo() = 3; undo() = 2");
        s.same("one saved state", View.of(s.object), before);
    }

    private static void promise5PendingAndLostCount() {
        Script s = Script.fortyPending("promise 5, those that became pending or were lost count, too").speak(0, 2).speak(1, 2);
        s.calls("undo() = 3; undo() = 2; resend(2) = 40; run(39) = 39; pending(2) = 39").speak(0, 2).speak(1, 2);
        s.calls("queued() = 3; run(100) = 3; pending(2) = 40; queued() = 0").speak(0, 2).calls("run(100) = 1; pending(2) = 40");
    }

    private static void promise6() {
        Script s = new Script("promise 6").calls("queued() = 0; deliver() = -1; queued() = 0; run(1) = 0; queued() = 0")
            .speak(0, 2).calls("queued() = 1");
        s.calls("setSilent(2, true) = 0; deliver() = 2; queued() = 0");
        Script.fortyQueued("promise 6, a full queue").calls("queued() = 40").refused(STATE, "input(2, 0)").calls("queued() = 40");
    }

    private static void promise7() {
        new Script("promise 7, 0 to 9972").lead(0, 9972).calls("state(0) = 9972").lead(0, 0).calls("state(0) = 0").lead(2, 0)
            .calls("state(2) = 0");
        new Script("promise 7, six machines").calls("reset(6) = 3").lead(5, 9972).calls("state(5) = 9972; state(4) = 4")
            .refused(INDEX, "state(6)", "state(-1)");
    }

    private static void promise8And9() {
        Script s = new Script("promise 8, the number of messages that are pending")
            .calls("setSilent(0, true) = 0; setSilent(0, true) = 0; setSilent(0, false) = 0;"
            + "setSilent(0, false) = 0; pending(0) = 0");
        s.calls("setSilent(1, true) = 0").speak(0, 1).calls("deliver() = 1; setSilent(1, true) = 1; setSilent(1, false) = 1;"
            + "setSilent(0, false) = 0; pending(1) = 1");
        Script full = Script.fortyPending("promise 9, 40 messages")
            .calls("setSilent(2, true) = 40; setSilent(2, false) = 40; pending(2) = 40; pending(0) = 0");
        full.calls("resend(2) = 40; pending(2) = 0; setSilent(2, true) = 0");
    }

    private static void promise10QueueOf40() {
        for (int queued = 0; queued <= 3; queued++) {
            // 38 messages are pending for machine 2
            Script s = Script.fortyQueued("promise 10, more than 40 messages, with " + queued)
                .calls("undo() = 3; undo() = 2; queued() = 38");
            s.calls("setSilent(2, true) = 0; run(100) = 38; pending(2) = 38; cut(0, 38) = 0; cut(1, 38) = 0");
            for (int i = 0; i < queued; i++) {
                s.speak(0, 1);
            }
            s.calls("queued() = " + queued);
            if (queued <= 2) {
                s.calls("resend(2) = 38; queued() = " + (38 + queued) + "; pending(2) = 0; undo() = 3; pending(2) = 38");
            } else {
                s.refused(STATE, "resend(2)").calls("queued() = 3; pending(2) = 38; deliver() = 1");
            }
        }
        Script all = Script.fortyPending("promise 10, 40 at once")
            .calls("resend(2) = 40; queued() = 40; pending(2) = 0; run(100) = 40; pending(2) = 40");
        all.speak(0, 1).refused(STATE, "resend(2)").calls("resend(1) = 0");
    }

    private static void promise10NothingPending() {
        Script s = new Script("promise 10, none are pending").calls("resend(0) = 0; queued() = 0; undo() = 0")
            .refused(STATE, "undo()");
        s.calls("resend(2) = 0; resend(2) = 0; undo() = 1; undo() = 0");
        Script.fortyQueued("promise 10, none are pending and the queue is full")
            .calls("resend(0) = 0; resend(2) = 0; queued() = 40; undo() = 3; undo() = 2");
        Script twice = new Script("promise 10, resent once").speak(0, 1)
            .calls("setSilent(1, true) = 0; run(1) = 1; resend(1) = 1; resend(1) = 0; queued() = 1");
        // it is silent still: the message becomes pending once more
        twice.calls("run(1) = 1; pending(1) = 1; resend(1) = 1");
    }

    private static void promise11() {
        Script s = new Script("promise 11, true if it was about to lie already")
            .calls("lie(0) = false; lie(0) = true; lie(0) = true; lie(1) = false; lie(2) = false");
        s.calls("undo() = 3; lie(2) = false; lie(2) = true").speak(0, 1).calls("lie(0) = false; lie(1) = true");
        s.calls("reset(3) = 3; lie(0) = false; lie(1) = false");
    }

    private static void promise12() {
        Script s = new Script("promise 12, an entry of its log, value: 0 to 999")
            .refused(INDEX, "tamper(0, 0, 0)", "tamper(0, -1, 0)");
        s.calls("input(0, 1) = 18; tamper(0, 0, 0) = 1; tamper(0, 0, 999) = 0; tamper(0, 1, 999) = 18; tamper(0, 1, 0) = 999;"
            + "entry(0, 0) = 999; entry(0, 1) = 220000");
        s.refused(INDEX, "tamper(0, 2, 0)", "tamper(0, -1, 0)", "tamper(0, " + LEAST + ", 0)", "tamper(0, " + GREATEST
            + ", 0)", "tamper(1, 0, 0)");
        s.refused(ARGUMENT, "tamper(0, 0, -1)", "tamper(0, 0, 1000)", "tamper(0, 1, -1)", "tamper(0, 1, 1000)",
            "tamper(0, 0, " + LEAST + ")",
            "tamper(0, 0, " + GREATEST + ")");
        s.calls("cut(0, 1) = 1").refused(INDEX, "tamper(0, 1, 0)").calls("tamper(0, 0, 1) = 999");
    }

    private static void promise13() {
        Script s = new Script("promise 13, 1 to the length of its log").refused(ARGUMENT, "cut(0, 0)", "cut(0, 1)", "cut(0, -1)");
        s.keepStill(0).keepStill(0).keepStill(0);
        s.refused(ARGUMENT, "cut(0, 0)", "cut(0, -1)", "cut(0, 4)", "cut(0, " + LEAST + ")", "cut(0, " + GREATEST + ")",
            "cut(1, 1)");
        s.calls("cut(0, 1) = 2; cut(0, 2) = 0; undo() = 3; undo() = 2; cut(0, 3) = 0; logLength(0) = 0")
            .refused(ARGUMENT, "cut(0, 1)", "cut(0, 0)");
        Script full = Script.fortyQueued("promise 13, a full log").refused(ARGUMENT, "cut(0, 41)", "cut(0, 0)");
        full.calls("cut(0, 40) = 0; cut(1, 39) = 1; logLength(0) = 0; logLength(1) = 1").refused(ARGUMENT, "cut(1, 2)");
    }

    private static void promise14() {
        Script s = new Script("promise 14, 0 to 40").calls("logLength(0) = 0; logLength(2) = 0");
        for (int length = 1; length <= 39; length++) {
            s.keepStill(0).calls("logLength(0) = " + length);
        }
        s.refused(STATE, "input(0, 0)").calls("logLength(0) = 39; logLength(1) = 0");
        Script.fortyQueued("promise 14, 40").calls("logLength(0) = 40; logLength(2) = 0; cut(0, 40) = 0; logLength(0) = 0");
    }

    private static void promise15() {
        Script s = new Script("promise 15, an entry of its log").refused(INDEX, "entry(0, 0)", "entry(0, -1)")
            .calls("input(0, 1) = 18; entry(0, 0) = 1; entry(0, 1) = 220018");
        s.refused(INDEX, "entry(0, 2)", "entry(0, -1)", "entry(0, " + LEAST + ")", "entry(0, " + GREATEST + ")", "entry(1, 0)");
        s.calls("cut(0, 1) = 1; entry(0, 0) = 1").refused(INDEX, "entry(0, 1)");
        Script full = Script.fortyQueued("promise 15, a full log").refused(INDEX, "entry(0, 40)");
        full.calls("entry(0, 39) = " + (230000 + full.object.state(0) % 1000));
        // the least and the greatest number
        Script six = new Script("promise 15, 100000 * kind + 10000 * (peer + 1) + value")
            .calls("reset(6) = 3; input(0, 0) = 1; entry(0, 0) = 0");
        six.speak(0, 5).calls("logLength(0) = 3; tamper(0, 2, 999) = " + six.object.state(0) % 1000 + "; entry(0, 2) = 260999");
    }

    private static void promise16() {
        Script s = new Script("promise 16, 0 to the length of the log").calls("chain(0, 0) = 1")
            .refused(INDEX, "chain(0, 1)", "chain(0, -1)");
        s.calls("input(0, 1) = 18; chain(0, 0) = 1; chain(0, 1) = 1000260; chain(0, 2) = 1683109627");
        s.refused(INDEX, "chain(0, 3)", "chain(0, -1)", "chain(0, " + LEAST + ")", "chain(0, " + GREATEST + ")", "chain(1, 1)");
        s.calls("cut(0, 1) = 1; chain(0, 1) = 1000260").refused(INDEX, "chain(0, 2)");
        Script full = Script.fortyQueued("promise 16, a full log").refused(INDEX, "chain(0, 41)");
        full.calls("chain(0, 40) = " + Script.chained(full.object.chain(0, 39), 2, 2, full.object.state(0) % 1000));
    }

    private static void promise17() {
        Script s = new Script("promise 17").calls("held(0) = 0; held(1) = 0; held(2) = 0").speak(0, 1)
            .calls("held(0) = 0; held(1) = 0; deliver() = 1");
        s.calls("held(0) = 1; held(1) = 1; held(2) = 0; reset(3) = 3; held(0) = 0; held(1) = 0; undo() = 2; held(0) = 1");
    }

    private static void promise18() {
        Script s = new Script("promise 18, number of the authenticator, from 0")
            .refused(INDEX, "authenticator(0, 0, 0)", "authenticator(0, -1, 0)");
        s.calls("input(0, 1) = 18; deliver() = 1; authenticator(1, 0, 0) = 0; authenticator(1, 0, 1) = 1;"
            + "authenticator(1, 0, 2) = 1683109627");
        s.refused(INDEX, "authenticator(1, 1, 0)", "authenticator(1, -1, 0)", "authenticator(2, 0, 0)", "authenticator(1, "
            + LEAST + ", 0)",
            "authenticator(1, " + GREATEST + ", 0)");
        s.refused(ARGUMENT, "authenticator(1, 0, -1)", "authenticator(1, 0, 3)", "authenticator(1, 0, " + LEAST + ")",
            "authenticator(1, 0, " + GREATEST + ")");
    }

    private static void promise19Masks() {
        for (int n = 2; n <= 6; n++) {
            for (int x = 0; x < n; x++) {
                Script s = new Script("promise 19, a bit mask of other machines");
                s.answer("reset(" + n + ")");
                int previous = (1 << n) - 1 - (1 << x);
                for (int mask = 0; mask < 1 << n; mask++) {
                    String call = "setWitnesses(" + x + ", " + mask + ")";
                    if ((mask >> x & 1) == 0) {
                        s.calls(call + " = " + previous);
                        previous = mask;
                    } else {
                        s.throwing(ARGUMENT, call);
                    }
                }
                for (int bit = n; bit < 32; bit++) {
                    s.throwing(ARGUMENT, "setWitnesses(" + x + ", " + (1 << bit) + ")", "setWitnesses(" + x + ", "
                        + (previous | 1 << bit) + ")");
                }
                s.throwing(ARGUMENT, "setWitnesses(" + x + ", -1)", "setWitnesses(" + x + ", " + GREATEST + ")");
            }
        }
    }

    private static void promise19VerdictsAreKept() {
        Script s = new Script("promise 19, verdicts are kept, but do not count")
            .calls("lie(0) = false; input(0, 1) = 18; audit(1, 0) = 2; verdictMask(2) = 1");
        s.calls("setWitnesses(0, 4) = 6; verdict(1, 0) = 2; verdictMask(2) = 0; verdictMask(0) = 7")
            .refused(STATE, "audit(1, 0)");
        s.calls("setWitnesses(0, 0) = 4; verdict(1, 0) = 2; verdictMask(2) = 0; verdictMask(0) = 6; auditAll() = 0");
        s.refused(STATE, "audit(1, 0)", "audit(2, 0)").calls("setWitnesses(0, 2) = 0; verdictMask(2) = 1; verdictMask(0) = 6;"
            + "evidenceCount() = 1");
    }

    private static void promise20() {
        Script s = new Script("promise 20, if the first one is not a witness of the second one")
            .refused(STATE, "audit(0, 0)", "audit(1, 1)", "audit(2, 2)");
        s.calls("setWitnesses(0, 2) = 6; audit(1, 0) = 0").refused(STATE, "audit(2, 0)")
            .calls("audit(2, 1) = 0; audit(0, 2) = 0; setWitnesses(0, 0) = 2");
        s.refused(STATE, "audit(1, 0)", "audit(2, 0)").calls("setWitnesses(0, 4) = 0; audit(2, 0) = 0")
            .refused(STATE, "audit(1, 0)");
        new Script("promise 20, two and six machines").calls("reset(2) = 3; audit(0, 1) = 0; audit(1, 0) = 0; reset(6) = 2;"
            + "audit(5, 0) = 0; audit(0, 5) = 0")
            .refused(STATE, "audit(5, 5)").refused(INDEX, "audit(6, 0)", "audit(0, 6)");
        Script deep = new Script("promise 20, the verdict afterwards")
            .calls("setSilent(0, true) = 0; audit(1, 0) = 1; setSilent(0, false) = 0; audit(1, 0) = 0; lie(0) = false");
        deep.speak(0, 1).calls("audit(1, 0) = 2; verdict(1, 0) = 2; verdict(2, 0) = 0");
        // no other reason is named: a silent witness audits, too, and so does one that is exposed itself
        new Script("promise 20, a silent witness").calls("setSilent(1, true) = 0; audit(1, 0) = 0; lie(0) = false; input(0, 1) = 18;"
            + "audit(1, 0) = 2; evidence(0, 2) = 1; setSilent(2, true) = 0; audit(1, 2) = 1; auditAll() = 4; verdict(2, 0) = 2");
        new Script("promise 20, an exposed witness").calls("lie(0) = false; input(0, 1) = 18; audit(1, 0) = 2; audit(0, 1) = 0;"
            + "setSilent(2, true) = 0; audit(0, 2) = 1");
    }

    private static void promise21() {
        new Script("promise 21, none changed").calls("auditAll() = 0; auditAll() = 0; undo() = 1; undo() = 0");
        Script none = new Script("promise 21, no witnesses").calls("lie(0) = false; input(0, 1) = 18; setSilent(1, true) = 0;"
            + "setWitnesses(0, 0) = 6; setWitnesses(1, 0) = 5");
        none.calls("setWitnesses(2, 0) = 3; auditAll() = 0; evidenceCount() = 0; undo() = 3");
        // all that there may be, of each kind
        Script six = new Script("promise 21, thirty changed").calls("reset(6) = 3");
        for (int x = 0; x < 6; x++) {
            six.calls("setSilent(" + x + ", true) = 0");
        }
        six.calls("auditAll() = 30; evidenceCount() = 0; auditAll() = 0; setSilent(3, false) = 0; auditAll() = 5;"
            + "setSilent(3, true) = 0; auditAll() = 5");
        Script exposed = new Script("promise 21, thirty exposed").calls("reset(6) = 3");
        for (int x = 0; x < 6; x++) {
            exposed.calls("lie(" + x + ") = false").speak(x, (x + 1) % 6);
        }
        exposed.calls("auditAll() = 30; evidenceCount() = 30; auditAll() = 0; evidenceCount() = 30; undo() = 3; undo() = 2;"
            + "evidenceCount() = 0");
        exposed.calls("auditAll() = 30; evidence(0, 1) = 0; evidence(0, 2) = 1; evidence(4, 1) = 0; evidence(4, 2) = 5;"
            + "evidence(5, 1) = 1; evidence(5, 2) = 0;"
            + "evidence(29, 1) = 5; evidence(29, 2) = 4");
    }

    private static void promise22() {
        Script s = new Script("promise 22, TRUSTED if both are the same")
            .calls("lie(0) = false; input(0, 1) = 18; setSilent(1, true) = 0; auditAll() = 4");
        s.calls("verdict(0, 0) = 0; verdict(1, 1) = 0; verdict(2, 2) = 0; verdict(1, 0) = 2; verdict(2, 0) = 2;"
            + "verdict(0, 1) = 1; verdict(2, 1) = 1;"
            + "verdict(0, 2) = 0; verdict(1, 2) = 0");
        s.calls("setWitnesses(0, 0) = 6; verdict(1, 0) = 2; verdict(0, 0) = 0")
            .refused(INDEX, "verdict(3, 3)", "verdict(-1, -1)", "verdict(3, 0)", "verdict(0, -1)");
    }

    private static void promise23() {
        Script s = new Script("promise 23, TRUSTED, SUSPECTED or EXPOSED");
        s.refused(ARGUMENT, "verdictMask(-1)", "verdictMask(3)", "verdictMask(" + LEAST + ")", "verdictMask(" + GREATEST + ")");
        s.calls("verdictMask(0) = 7; verdictMask(1) = 0; verdictMask(2) = 0; lie(0) = false; input(0, 1) = 18;"
            + "setSilent(2, true) = 0; auditAll() = 4");
        s.calls("verdictMask(0) = 2; verdictMask(1) = 4; verdictMask(2) = 1")
            .refused(ARGUMENT, "verdictMask(-1)", "verdictMask(3)");
        // one witness of several is enough, for each verdict; without witnesses a machine is in no mask
        Script one = new Script("promise 23, at least one of their witnesses")
            .calls("reset(6) = 3; verdictMask(0) = 63; setSilent(5, true) = 0; audit(4, 5) = 1");
        one.calls("verdictMask(0) = 63; verdictMask(1) = 32; setWitnesses(5, 16) = 31; verdictMask(0) = 31;"
            + "verdictMask(1) = 32; setWitnesses(5, 0) = 16;"
            + "verdictMask(0) = 31; verdictMask(1) = 0; verdictMask(2) = 0; setWitnesses(0, 0) = 62; verdictMask(0) = 30");
        new Script("promise 23, two machines").calls("reset(2) = 3; verdictMask(0) = 3; setWitnesses(0, 0) = 2;"
            + "setWitnesses(1, 0) = 1; verdictMask(0) = 0");
    }

    private static void promise24() {
        Script s = new Script("promise 24").calls("evidenceCount() = 0; auditAll() = 0; evidenceCount() = 0;"
            + "setSilent(0, true) = 0; audit(1, 0) = 1; evidenceCount() = 0");
        s.calls("setSilent(0, false) = 0; lie(0) = false; input(0, 1) = 18; audit(1, 0) = 2; evidenceCount() = 1;"
            + "reset(3) = 3; evidenceCount() = 0; undo() = 3;"
            + "evidenceCount() = 1");
    }

    private static void promise25() {
        Script s = new Script("promise 25, number of the piece, from 0").refused(INDEX, "evidence(0, 0)", "evidence(-1, 0)");
        s.calls("lie(0) = false; input(0, 1) = 18; audit(2, 0) = 2; evidence(0, 0) = 1; evidence(0, 1) = 0;"
            + "evidence(0, 2) = 2; evidence(0, 3) = 1");
        s.refused(INDEX, "evidence(1, 0)", "evidence(-1, 3)", "evidence(" + LEAST + ", 0)", "evidence(" + GREATEST + ", 0)");
        s.refused(ARGUMENT, "evidence(0, -1)", "evidence(0, 4)", "evidence(0, " + LEAST + ")", "evidence(0, " + GREATEST + ")");
        s.calls("undo() = 2").refused(INDEX, "evidence(0, 0)");
    }

    private static void promise26() {
        Script s = new Script("promise 26, if the stack is empty").refused(STATE, "undo()")
            .calls("lie(0) = false; undo() = 0").refused(STATE, "undo()");
        s.calls("lie(0) = false; lie(0) = true; lie(0) = true; lie(0) = true; lie(0) = true; undo() = 3; undo() = 2;"
            + "undo() = 1; undo() = 0");
        // the oldest state that is left is the one from before the second call
        s.refused(STATE, "undo()").calls("lie(0) = true; undo() = 0");
    }

    private static void promise27() {
        Script s = new Script("promise 27, a new object");
        s.same("digest()", s.object.digest(), folded(0, 3, 0, 0, 0, 6, 0, 1, 0, 0, 0, 0, 0, 1, 0, 0, 5, 0, 1, 0, 0, 0, 0, 0,
            2, 0, 0, 3, 0, 1, 0, 0, 0, 0, 0, 0, 0));
        promise27Full();
        promise27Stack();
    }

    /** Two machines with full logs, of which one has 19 pending messages, 21 in the queue, and a piece of evidence. */
    private static void promise27Full() {
        Script s = new Script("promise 27, full logs").calls("reset(2) = 3; lie(0) = false");
        for (int i = 0; i < 20; i++) {
            s.speak(0, 1).speak(1, 0);
        }
        s.calls("setSilent(1, true) = 0; run(1) = 1; lie(1) = false; audit(1, 0) = 2; setWitnesses(1, 0) = 1");
        List<Long> values = new ArrayList<>(List.of(4L, 2L));
        for (int x = 0; x < 2; x++) {
            addAll(values, s.object.state(x), x, x, 2 - 2 * x, 40);
            for (int k = 0; k < 40; k++) {
                addAll(values, s.object.entry(x, k));
            }
            addAll(values, s.object.chain(x, 40), 0, x, s.object.verdict(0, x), s.object.verdict(1, x));
        }
        addAll(values, 39);
        for (int i = 1; i < 40; i++) {
            int sender = i % 2;
            addAll(values, 1 - sender, s.object.entry(sender, 2 * (i / 2) + 1) % 10000);
        }
        addAll(values, 1, 1, 0, 1, 1);
        long[] all = new long[values.size()];
        for (int i = 0; i < all.length; i++) {
            all[i] = values.get(i);
        }
        s.same("digest()", s.object.digest(), folded(all));
    }

    /** The number of states on the undo stack counts, up to 4. */
    private static void promise27Stack() {
        Script s = new Script("promise 27, the number of states on the undo stack");
        for (int saved = 0; saved <= 6; saved++) {
            s.same("digest() with " + saved, s.object.digest(), folded(saved < 4 ? saved : 4, 3, 0, 0, 0, 6, 0, 1, 0, 0, 0, 0, 0,
                1, 0, 0, 5, 0, 1, 0, 0, 0, 0, 0, 2, 0, 0, 3, 0, 1, 0, 0, 0, 0, 0, 0, 0));
            s.calls("auditAll() = 0");
        }
    }

    private static void addAll(List<Long> values, long... more) {
        for (long value : more) {
            values.add(value);
        }
    }

    /** Without overflow: the low 64 bits of the whole sum are taken at the end. */
    private static long folded(long... values) {
        BigInteger h = BigInteger.valueOf(12833);
        for (long value : values) {
            h = h.multiply(BigInteger.valueOf(31)).add(BigInteger.valueOf(value));
        }
        return h.longValue();
    }
}
