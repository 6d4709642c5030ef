/** The boundary cases that "UNDO" and "EXCEPTIONS" of the document's "Description" name, a test for each sentence. */
public final class UndoAndExceptionsEdgesTest {
    private static final String INDEX = Script.INDEX;
    private static final String ARGUMENT = Script.ARGUMENT;
    private static final String STATE = Script.STATE;

    public static void main(String[] args) {
        everyUndoableMethodSaves();
        alsoIfItChangesNothing();
        theOtherMethodsSaveNothing();
        theSavedStateIsTheOneFromBefore();
        theLatestFourSavedStates();
        droppedAndUndoneInTurn();
        aThrowingCallChangesNothing();
        aThrowingCallChangesNothingWithoutRoom();
        theExceptionThatIsListedFirst();
        noneOnlyIfNoExceptionApplies();
        Script.end();
    }

    /**
     * Three machines and something of everything: machine 1 is silent and has a pending message, machine 2 is about to
     * lie, machine 0 lied and is exposed by machine 1, two messages are in the queue, and four states are on the stack.
     */
    private static Script rich(String title) {
        Script s = new Script(title).speak(0, 2).calls("run(1) = 1; lie(0) = false").speak(0, 1);
        s.calls("setSilent(1, true) = 0; run(100) = 1").speak(0, 1).speak(1, 2);
        s.calls("setWitnesses(2, 1) = 3; audit(1, 0) = 2; lie(2) = false");
        return s.calls("pending(1) = 1; queued() = 2; held(0) = 1; held(2) = 1; evidenceCount() = 1");
    }

    // ---- UNDO

    private static final String[] UNDOABLE = {"reset(2)", "reset(3)", "reset(6)", "input(0, 5)", "input(1, 0)", "input(2, 999)",
        "deliver()", "run(1)", "run(100)", "setSilent(0, true)", "setSilent(1, false)", "resend(1)", "lie(0)", "tamper(0, 0, 0)",
        "tamper(0, 1, 999)", "cut(0, 1)", "cut(0, 2)", "setWitnesses(0, 2)", "setWitnesses(1, 0)", "audit(2, 0)", "audit(0, 1)",
        "auditAll()"};

    private static void everyUndoableMethodSaves() {
        for (String call : UNDOABLE) {
            saves(rich("Every method that is marked \"undoable\" saves the whole state: " + call).calls("undo() = 3"), call);
        }
    }

    private static void alsoIfItChangesNothing() {
        String[] calls = {"reset(3)", "run(1)", "run(100)", "setSilent(0, false)", "resend(0)", "setWitnesses(0, 6)",
            "audit(1, 0)",
            "auditAll()"};
        for (String call : calls) {
            Script s = new Script("also if it changes nothing: " + call);
            String before = View.of(s.object);
            saves(s, call);
            s.answer(call);
            s.calls("undo() = 0").refused(STATE, "undo()").same("nothing is changed", View.of(s.object), before);
        }
        saves(new Script("also if it changes nothing: lie").calls("lie(0) = false"), "lie(0)");
        saves(new Script("also if it changes nothing: tamper").calls("input(0, 1) = 18"), "tamper(0, 0, 1)");
        saves(new Script("also if it changes nothing: setSilent").calls("setSilent(1, true) = 0"), "setSilent(1, true)");
        saves(new Script("also if it changes nothing: audit")
            .calls("lie(0) = false; input(0, 1) = 18; audit(1, 0) = 2"), "audit(1, 0)");
    }

    /** The call ends normally, makes the stack one higher, and undo brings back all that was before. */
    private static void saves(Script s, String call) {
        int saved = saved(s);
        String before = View.of(s.object);
        String answer = s.answer(call);
        s.same(call + " ends normally", answer.startsWith("throws") ? 1 : 0, 0);
        s.same(call + " saves one state", saved(s), saved + 1);
        s.calls("undo() = " + saved).same("after undo of " + call, View.of(s.object), before);
        s.due(call, answer);
        s.calls("undo() = " + saved).same("after another undo of " + call, View.of(s.object), before);
        s.undone(call);
    }

    /** How many states are on the stack, as a new object after the same calls tells. */
    private static int saved(Script s, String... more) {
        Subject other = s.again(more);
        int count = 0;
        while (count < 6 && !other.answer("undo()").startsWith("throws")) {
            count++;
        }
        return count;
    }

    private static void theOtherMethodsSaveNothing() {
        Script s = new Script("not undoable").calls("input(0, 1) = 18; deliver() = 1");
        String before = View.of(s.object);
        for (String call : new String[] {"queued()", "state(0)", "pending(0)", "logLength(0)", "entry(0, 0)", "chain(0, 0)",
            "held(0)",
                "authenticator(0, 0, 0)", "verdict(0, 1)", "verdictMask(0)", "evidenceCount()", "digest()"}) {
            s.same(call + " does not throw", s.answer(call).startsWith("throws") ? 1 : 0, 0);
            s.same(call + " saves nothing", saved(s, call), 2);
        }
        s.same("nothing is changed", View.of(s.object), before);
        Script evidence = new Script("evidence() is not undoable")
            .calls("lie(0) = false; input(0, 1) = 18; audit(1, 0) = 2; evidence(0, 0) = 1");
        evidence.calls("undo() = 2; undo() = 1; undo() = 0").refused(STATE, "undo()");
    }

    private static void theSavedStateIsTheOneFromBefore() {
        Script s = new Script("The saved state is the one from before the call")
            .calls("input(0, 1) = 18; undo() = 0; state(0) = 0; logLength(0) = 0; queued() = 0");
        s.calls("input(0, 1) = 18; deliver() = 1; undo() = 1; queued() = 1; held(0) = 0; undo() = 0; queued() = 0");
        // of many deliveries in one call, and of many audits in one call, all are taken back
        Script run = Script.fortyQueued("one saved state, run")
            .calls("setSilent(2, true) = 0; run(100) = 40; undo() = 3; queued() = 40; pending(2) = 0");
        run.calls("run(40) = 40; run(40) = 0; undo() = 3; undo() = 2; queued() = 40");
        new Script("one saved state, auditAll").calls("setSilent(0, true) = 0; setSilent(1, true) = 0; auditAll() = 4;"
            + "undo() = 2; verdictMask(1) = 0;"
            + "undo() = 1; undo() = 0");
    }

    private static void theLatestFourSavedStates() {
        for (int calls = 0; calls <= 9; calls++) {
            Script s = new Script("The stack keeps the latest 4 saved states, after " + calls);
            int[] states = new int[calls + 1];
            for (int i = 1; i <= calls; i++) {
                s.keepStill(0);
                states[i] = s.object.state(0);
            }
            int kept = calls < 4 ? calls : 4;
            for (int left = kept - 1; left >= 0; left--) {
                s.calls("undo() = " + left + "; state(0) = " + states[calls - kept + left]);
                s.calls("logLength(0) = " + (calls - kept + left));
            }
            s.refused(STATE, "undo()");
        }
    }

    private static void droppedAndUndoneInTurn() {
        Script s = new Script("and drops older ones, with undo between");
        for (int round = 0; round < 7; round++) {
            // three more, two back, so the stack becomes full and stays so while its states are used again
            s.keepStill(0).keepStill(0).keepStill(0);
            int length = s.object.logLength(0);
            int full = round == 0 ? 3 : 4;
            s.calls("undo() = " + (full - 1) + "; logLength(0) = " + (length - 1) + "; undo() = " + (full - 2) + ";"
                + "logLength(0) = " + (length - 2));
        }
        s.calls("logLength(0) = 7; undo() = 1; logLength(0) = 6; undo() = 0; logLength(0) = 5").refused(STATE, "undo()");
    }

    // ---- EXCEPTIONS

    private static void aThrowingCallChangesNothing() {
        // once with a full stack and once with one that has a place
        for (String last : new String[] {"digest()", "undo()"}) {
            Script s = rich("A call that throws an exception changes nothing");
            s.answer(last);
            s.refused(ARGUMENT, "reset(1)", "reset(7)", "input(0, -1)", "input(0, 1000)", "run(0)", "run(101)",
                "tamper(0, 0, -1)",
                "tamper(0, 0, 1000)", "cut(0, 0)", "cut(0, 41)", "authenticator(0, 0, -1)", "authenticator(0, 0, 3)",
                "setWitnesses(0, 1)",
                "setWitnesses(0, 8)", "verdictMask(-1)", "verdictMask(3)");
            for (int machine : new int[] {-1, 3}) {
                for (String call : new String[] {"input(#, 1)", "state(#)", "setSilent(#, true)", "setSilent(#, false)",
                    "pending(#)",
                        "resend(#)", "lie(#)", "tamper(#, 0, 1)", "cut(#, 1)", "logLength(#)", "entry(#, 0)", "chain(#, 0)",
                        "held(#)",
                        "authenticator(#, 0, 0)", "setWitnesses(#, 0)", "audit(#, 0)", "audit(0, #)", "verdict(#, 0)",
                        "verdict(0, #)"}) {
                    s.refused(INDEX, call.replace("#", "" + machine));
                }
            }
            s.refused(INDEX, "entry(0, -1)", "entry(0, 40)", "chain(0, -1)", "chain(0, 41)", "authenticator(0, 60, 0)",
                "evidence(9, 0)",
                "evidence(-1, 0)", "tamper(0, -1, 1)", "tamper(0, 40, 1)");
            s.refused(STATE, "audit(0, 0)", "audit(1, 2)");
        }
        Script evidence = rich("evidence() that throws changes nothing").refused(INDEX, "evidence(1, 0)");
        evidence.refused(ARGUMENT, "evidence(0, -1)", "evidence(0, 4)");
    }

    private static void aThrowingCallChangesNothingWithoutRoom() {
        Script.fortyQueued("A call that throws changes nothing: a full queue and full logs")
            .refused(STATE, "input(0, 1)", "input(2, 0)").calls("lie(2) = false").refused(STATE, "input(2, 0)");
        Script pending = Script.fortyPending("A call that throws changes nothing: resend").speak(0, 2)
            .refused(STATE, "resend(2)");
        pending.calls("queued() = 1; pending(2) = 40");
        Script full = new Script("A call that throws changes nothing: deliver").speak(1, 0);
        for (int i = 0; i < 39; i++) {
            full.keepStill(0);
        }
        full.calls("lie(0) = false").refused(STATE, "deliver()")
            .calls("queued() = 1; held(0) = 0; held(1) = 0; logLength(0) = 39");
        new Script("A call that throws changes nothing: undo").refused(STATE, "undo()").calls("input(0, 1) = 18; undo() = 0")
            .refused(STATE, "undo()");
    }

    private static void theExceptionThatIsListedFirst() {
        Script s = new Script("the one that is listed first is thrown")
            .calls("input(0, 1) = 18; deliver() = 1; cut(0, 1) = 1; audit(1, 0) = 2");
        s.refused(INDEX, "input(3, 1000)", "input(-1, -1)", "tamper(3, 0, 1000)", "tamper(0, 1, 1000)", "tamper(0, -1, -1)",
            "cut(3, 0)", "cut(-1, -1)",
            "authenticator(3, 0, 3)", "authenticator(0, 9, 3)", "authenticator(0, -1, -1)", "setWitnesses(3, 8)",
            "setWitnesses(-1, -1)",
            "audit(3, 3)", "audit(-1, -1)", "audit(3, 0)", "audit(0, 3)", "evidence(1, 4)", "evidence(-1, -1)");
        // no room at all, and other faults besides
        Script full = Script.fortyQueued("the one that is listed first is thrown, without room")
            .refused(STATE, "input(0, 0)", "input(2, 999)");
        full.refused(ARGUMENT, "input(0, 1000)", "input(2, -1)").refused(INDEX, "input(3, 0)", "input(3, 1000)", "input(-1, -1)");
        Script pending = Script.fortyPending("the one that is listed first is thrown, resend").speak(0, 2);
        pending.refused(STATE, "resend(2)").refused(INDEX, "resend(3)", "resend(-1)");
        // a machine without any witness
        Script alone = new Script("the one that is listed first is thrown, audit").calls("setWitnesses(0, 0) = 6")
            .refused(STATE, "audit(1, 0)", "audit(0, 0)");
        alone.refused(INDEX, "audit(3, 0)", "audit(-1, 0)");
    }

    private static void noneOnlyIfNoExceptionApplies() {
        Script s = new Script("NONE is returned only if no exception applies").calls("deliver() = -1").speak(1, 0);
        for (int i = 0; i < 39; i++) {
            s.keepStill(0);
        }
        s.refused(STATE, "deliver()").calls("setSilent(0, true) = 0; deliver() = 0; setSilent(0, false) = 1");
        // the queue is empty now: that machine 0 has no room is no exception then
        s.calls("queued() = 0; logLength(0) = 39; deliver() = -1");
        Script full = new Script("NONE with full logs").calls("reset(2) = 3; setSilent(0, true) = 0; setSilent(1, true) = 0");
        for (int i = 0; i < 20; i++) {
            full.speak(0, 1).speak(1, 0).calls("run(2) = 2");
        }
        full.calls("setSilent(0, false) = 20; setSilent(1, false) = 20; logLength(0) = 40; logLength(1) = 40; deliver() = -1;"
            + "undo() = 3");
    }
}
