/** Each promise of the document by itself: ordinary inputs, the edges that the document names, and wrong inputs. */
public final class PromisesTest {
    private static final String INDEX = Script.INDEX;
    private static final String ARGUMENT = Script.ARGUMENT;
    private static final String STATE = Script.STATE;

    public static void main(String[] args) {
        promise1NewObject();
        promise2Reset();
        promise3Input();
        promise3NoRoom();
        promise4Deliver();
        promise4SilentReceiver();
        promise4NoRoom();
        promise5Run();
        promise6Queued();
        promise7State();
        promise8SetSilent();
        promise9Pending();
        promise10Resend();
        promise11Lie();
        promise12Tamper();
        promise13Cut();
        promise14LogLength();
        promise15Entry();
        promise16Chain();
        promise17Held();
        promise18Authenticator();
        promise19SetWitnesses();
        promise20AuditSteps1And2();
        promise20AuditMismatch();
        promise20AuditReplay();
        promise20AuditPending();
        promise21AuditAll();
        promise22Verdict();
        promise23VerdictMask();
        promise24EvidenceCount();
        promise25Evidence();
        promise26Undo();
        promise26EveryUndoableMethod();
        promise27Digest();
        Script.end();
    }

    private static void promise1NewObject() {
        Script s = new Script("promise 1").calls(
            "state(0) = 0; state(1) = 1; state(2) = 2; logLength(0) = 0; logLength(2) = 0; chain(1, 0) = 1; held(0) = 0;"
            + "pending(2) = 0; queued() = 0; evidenceCount() = 0; verdictMask(0) = 7; verdictMask(1) = 0; verdictMask(2) = 0;"
            + "verdict(0, 1) = 0; verdict(2, 0) = 0; deliver() = -1");
        s.throwing(INDEX, "state(3)", "state(-1)").throwing(STATE, "undo()");
        s.calls("setWitnesses(0, 0) = 6; setWitnesses(1, 0) = 5; setWitnesses(2, 0) = 3; lie(0) = false; setSilent(1, true) = 0");
        new Script("promise 1, another object").calls("setWitnesses(0, 6) = 6; lie(0) = false; audit(0, 1) = 0");
    }

    private static void promise2Reset() {
        Script s = new Script("promise 2").calls("reset(2) = 3; reset(6) = 2; state(5) = 5; setWitnesses(5, 1) = 31; reset(6) = 6");
        s.calls("setWitnesses(5, 1) = 31; setWitnesses(0, 62) = 62");
        s.throwing(ARGUMENT, "reset(1)", "reset(7)", "reset(0)", "reset(-3)", "reset(2147483647)", "reset(-2147483648)");
        s.calls("reset(2) = 6").throwing(INDEX, "state(2)");

        Script anew = new Script("promise 2, all anew").calls(
            "input(0, 1) = 18; input(0, 2) = 593; setSilent(1, true) = 0; deliver() = 1; lie(0) = false; tamper(0, 0, 2) = 1;"
            + "audit(2, 0) = 2; audit(0, 1) = 1; setWitnesses(2, 1) = 3; input(2, 0) = 63; queued() = 1; evidenceCount() = 1;"
            + "reset(3) = 3; queued() = 0; evidenceCount() = 0; pending(1) = 0; verdict(2, 0) = 0; verdict(0, 1) = 0; state(0) = 0;"
            + "state(2) = 2; logLength(0) = 0; held(0) = 0; chain(0, 0) = 1; setWitnesses(2, 3) = 3; audit(0, 1) = 0;"
            + "lie(0) = false");
        anew.calls("undo() = 3; undo() = 2; undo() = 1; evidenceCount() = 0; queued() = 0");
        anew.calls("undo() = 0; queued() = 1; evidenceCount() = 1; pending(1) = 1; verdict(2, 0) = 2; state(2) = 63");
        new Script("promise 2, authenticators").calls("input(0, 1) = 18; deliver() = 1; held(0) = 1; reset(3) = 3; held(0) = 0; held(1) = 0;"
            + "undo() = 2; held(0) = 1; authenticator(1, 0, 2) = 1683109627");
    }

    private static void promise3Input() {
        new Script("promise 3").calls(
            "input(0, 1) = 18; logLength(0) = 2; queued() = 1; input(1, 2) = 66; queued() = 2; input(0, 2) = 593; logLength(0) = 3;"
            + "queued() = 2; input(2, 0) = 63; input(1, 999) = 9057; input(2, 999) = 8964; held(0) = 0; held(1) = 0");
        Script s = new Script("promise 3, wrong inputs");
        s.throwing(INDEX, "input(3, 1)", "input(-1, 1)", "input(3, 1000)", "input(2147483647, -1)", "input(-2147483648, 0)");
        s.throwing(ARGUMENT, "input(0, 1000)", "input(0, -1)", "input(2, 2147483647)", "input(2, -2147483648)");
        new Script("promise 3, a silent machine").calls(
            "setSilent(0, true) = 0; input(0, 1) = 18; logLength(0) = 2; queued() = 1; pending(0) = 0");
        // with two machines the output always goes to the other one
        new Script("promise 3, two machines").calls("reset(2) = 3; input(1, 2) = 66; entry(1, 1) = 210066; deliver() = 0");
        // the output of a machine with six: 18 modulo 5 = 3 more than the next one
        new Script("promise 3, six machines").calls("reset(6) = 3; input(0, 1) = 18; entry(0, 1) = 250018; deliver() = 4");
    }

    private static void promise3NoRoom() {
        Script s = new Script("promise 3, a full log");
        for (int i = 0; i < 19; i++) {
            s.speak(0, 1);
        }
        s.calls("logLength(0) = 38; queued() = 19");
        s.speak(0, 1);
        s.calls("logLength(0) = 40; queued() = 20").throwing(STATE, "input(0, 1)").throwing(ARGUMENT, "input(0, 1000)");
        s.calls("cut(0, 1) = 39").throwing(STATE, "input(0, 1)").calls("cut(0, 1) = 38");
        s.keepStill(0);
        s.calls("logLength(0) = 39").throwing(STATE, "input(0, 1)").throwing(INDEX, "input(3, 1)");

        Script full = new Script("promise 3, a full queue");
        for (int i = 0; i < 20; i++) {
            full.speak(0, 2);
        }
        for (int i = 0; i < 19; i++) {
            full.speak(1, 2);
        }
        full.calls("queued() = 39");
        full.speak(2, 0);
        full.calls("queued() = 40; logLength(2) = 2").throwing(STATE, "input(2, 1)", "input(1, 0)");
        full.calls("deliver() = 2");
        full.calls("queued() = " + (full.object.state(2) % 3 == 0 ? 40 : 39));
    }

    private static void promise4Deliver() {
        Script s = new Script("promise 4").calls(
            "deliver() = -1").throwing(STATE, "undo()").calls("input(0, 1) = 18; deliver() = 1; state(1) = 339; logLength(1) = 2;"
            + "entry(1, 0) = 110018; entry(1, 1) = 210339; held(1) = 1; held(0) = 1; held(2) = 0; queued() = 1");
        s.calls("authenticator(1, 0, 0) = 0; authenticator(1, 0, 1) = 1; authenticator(1, 0, 2) = 1683109627");
        s.calls("authenticator(0, 0, 0) = 1; authenticator(0, 0, 1) = 0");
        s.same("the acknowledgement", s.object.authenticator(0, 0, 2), Script.chained(1, 1, 0, 18));
        s.calls("deliver() = 0; state(0) = 6324; held(0) = 2; held(1) = 2; authenticator(0, 1, 0) = 1; authenticator(0, 1, 1) = 1;"
            + "authenticator(1, 1, 0) = 0; authenticator(1, 1, 1) = 2; entry(0, 2) = 120339; entry(0, 3) = 220324");
        s.calls("undo() = 2; state(0) = 18; held(0) = 1; queued() = 1");
        // an authenticator is made when the message is sent, and not made anew when the log is tampered with
        new Script("promise 4, an old authenticator").calls(
            "input(0, 1) = 18; tamper(0, 0, 5) = 1; deliver() = 1; authenticator(1, 0, 2) = 1683109627");
        // the order of the queue
        new Script("promise 4, in order").calls("input(0, 1) = 18; input(1, 2) = 66; input(2, 0) = 63; deliver() = 1; deliver() = 2");
    }

    private static void promise4SilentReceiver() {
        Script s = new Script("promise 4, a silent receiver").calls(
            "input(0, 1) = 18; setSilent(1, true) = 0; deliver() = 1; pending(1) = 1; queued() = 0; held(1) = 0; held(0) = 0;"
            + "state(1) = 1; logLength(1) = 0; deliver() = -1; undo() = 2; pending(1) = 0; queued() = 1");
        s.calls("setSilent(1, false) = 0; setSilent(0, true) = 0; deliver() = 1; held(0) = 1; pending(0) = 0");

        Script lost = Script.fortyPending("promise 4, a lost message");
        lost.speak(1, 2);
        lost.calls("queued() = 1; deliver() = 2; pending(2) = 40; queued() = 0; logLength(2) = 0; held(2) = 0; held(1) = 0");
        lost.calls("undo() = 3; queued() = 1; pending(2) = 40");
    }

    private static void promise4NoRoom() {
        Script s = new Script("promise 4, no room");
        s.speak(1, 0);
        for (int i = 0; i < 39; i++) {
            s.keepStill(0);
        }
        s.calls("logLength(0) = 39; queued() = 1").throwing(STATE, "deliver()");
        s.calls("setSilent(0, true) = 0; deliver() = 0; pending(0) = 1; setSilent(0, false) = 1; resend(0) = 1")
            .throwing(STATE, "deliver()");
        s.calls("cut(0, 1) = 38; deliver() = 0");
        s.calls("queued() = " + (s.object.state(0) % 3 == 0 ? 1 : 0));

        // the message that is being delivered does not count: a full queue is no hindrance
        Script full = new Script("promise 4, a full queue");
        for (int i = 0; i < 20; i++) {
            full.speak(0, 2);
            full.speak(1, 2);
        }
        full.calls("queued() = 40; deliver() = 2");
        full.calls("logLength(2) = " + (full.object.state(2) % 3 == 0 ? 2 : 1));
    }

    private static void promise5Run() {
        Script s = new Script("promise 5");
        s.throwing(ARGUMENT, "run(0)", "run(101)", "run(-1)", "run(2147483647)", "run(-2147483648)");
        s.calls("run(1) = 0; undo() = 0");
        s.calls("input(0, 1) = 18; run(1) = 1; state(1) = 339; queued() = 1; run(2) = 2; undo() = 2; undo() = 1; state(1) = 1");
        new Script("promise 5, till the end").calls(
            "input(0, 1) = 18; input(0, 2) = 593; input(0, 3) = 8462; input(0, 4) = 3093; input(0, 5) = 6212; input(0, 6) = 3188;"
            + "queued() = 2; run(100) = 3; queued() = 0; run(100) = 0; state(1) = 339; state(2) = 1645");
        new Script("promise 5, silent").calls("input(0, 1) = 18; setSilent(1, true) = 0; run(100) = 1; pending(1) = 1; queued() = 0");

        Script lost = Script.fortyPending("promise 5, pending and lost messages count");
        lost.speak(1, 2);
        lost.speak(1, 2);
        lost.calls("run(100) = 2; pending(2) = 40; queued() = 0");

        Script stuck = new Script("promise 5, no room");
        stuck.speak(1, 2);
        stuck.speak(1, 0);
        stuck.speak(1, 2);
        for (int i = 0; i < 39; i++) {
            stuck.keepStill(0);
        }
        stuck.calls("setSilent(2, true) = 0; run(100) = 1; queued() = 2; run(100) = 0; pending(2) = 1; setSilent(0, true) = 0;"
            + "run(100) = 2; pending(0) = 1; pending(2) = 2");
    }

    private static void promise6Queued() {
        new Script("promise 6").calls("queued() = 0; input(0, 1) = 18; queued() = 1; input(0, 2) = 593; queued() = 1;"
            + "input(2, 0) = 63; queued() = 2; deliver() = 1; undo() = 3; queued() = 2; reset(3) = 3; queued() = 0");
    }

    private static void promise7State() {
        Script s = new Script("promise 7").calls("state(0) = 0; input(0, 999) = 7011; state(0) = 7011; state(1) = 1");
        s.throwing(INDEX, "state(3)", "state(-1)", "state(2147483647)", "state(-2147483648)");
        s.calls("reset(2) = 3").throwing(INDEX, "state(2)").calls("reset(6) = 2; state(5) = 5").throwing(INDEX, "state(6)");
        new Script("promise 7, faults of logs leave it").calls(
            "input(0, 1) = 18; tamper(0, 0, 9) = 1; state(0) = 18; cut(0, 2) = 0; state(0) = 18; input(0, 2) = 593");
    }

    private static void promise8SetSilent() {
        Script s = new Script("promise 8").calls(
            "setSilent(1, true) = 0; input(0, 1) = 18; deliver() = 1; setSilent(1, true) = 1; setSilent(1, false) = 1;"
            + "setSilent(0, true) = 0; setSilent(1, false) = 1; undo() = 3; undo() = 2; audit(2, 0) = 0; audit(2, 1) = 1");
        s.throwing(INDEX, "setSilent(3, true)", "setSilent(-1, false)", "setSilent(2147483647, true)");
        s.calls("reset(3) = 3; setSilent(2, false) = 0; undo() = 3");
    }

    private static void promise9Pending() {
        Script s = new Script("promise 9").calls("pending(1) = 0; setSilent(1, true) = 0; input(0, 1) = 18; pending(1) = 0;"
            + "run(100) = 1; pending(1) = 1; pending(0) = 0; setSilent(1, false) = 1; pending(1) = 1; resend(1) = 1; pending(1) = 0");
        s.throwing(INDEX, "pending(3)", "pending(-1)", "pending(-2147483648)");
        Script.fortyPending("promise 9, forty").calls("pending(2) = 40; pending(1) = 0");
    }

    private static void promise10Resend() {
        Script s = new Script("promise 10").calls("resend(1) = 0; undo() = 0");
        s.throwing(INDEX, "resend(3)", "resend(-1)", "resend(2147483647)");
        // a silent machine does not get them by this
        s.calls("setSilent(1, true) = 0; input(0, 1) = 18; run(9) = 1; resend(1) = 1; pending(1) = 0; queued() = 1; run(9) = 1;"
            + "pending(1) = 1; undo() = 3; undo() = 2; pending(1) = 1; queued() = 0");

        Script order = new Script("promise 10, in their order, at the end").calls("setSilent(1, true) = 0; input(0, 1) = 18");
        order.speak(0, 1);
        int second = order.object.state(0) % 1000;
        order.calls("run(100) = 2; pending(1) = 2");
        order.speak(0, 2);
        order.calls("resend(1) = 2; pending(1) = 0; queued() = 3; setSilent(1, false) = 0; deliver() = 2; deliver() = 1;"
            + "entry(1, 0) = 110018; logLength(1) = 2; deliver() = 1; entry(1, 2) = " + (110000 + second));

        // the whole message comes back: machine 1 sent 66 to machine 2, and entry 1 of its log is its authenticator's
        Script whole = new Script("promise 10, the whole message").calls("setSilent(2, true) = 0; input(1, 2) = 66; deliver() = 2;"
            + "input(0, 1) = 18; deliver() = 1; state(1) = 2354; queued() = 0; held(1) = 1; held(0) = 1;"
            + "setSilent(2, false) = 1; resend(2) = 1; deliver() = 2; entry(2, 0) = 120066; held(1) = 2; held(0) = 1;"
            + "authenticator(2, 0, 0) = 1; authenticator(2, 0, 1) = 1");
        whole.same("its authenticator", whole.object.authenticator(2, 0, 2), whole.object.chain(1, 2));

        Script many = Script.fortyPending("promise 10, forty");
        many.calls("resend(2) = 40; queued() = 40; pending(2) = 0; undo() = 3");
        many.speak(1, 2);
        many.throwing(STATE, "resend(2)").throwing(INDEX, "resend(3)");
        many.calls("pending(2) = 40; queued() = 1; resend(1) = 0; deliver() = 2; resend(2) = 40");
    }

    private static void promise11Lie() {
        Script s = new Script("promise 11").calls("lie(0) = false; lie(0) = true; lie(1) = false; input(0, 1) = 18; entry(0, 1) = 220019;"
            + "lie(0) = false; undo() = 3; state(0) = 18; deliver() = 1; entry(1, 0) = 110019");
        s.throwing(INDEX, "lie(3)", "lie(-1)", "lie(2147483647)");
        // without an output the lie stays due
        new Script("promise 11, at the next output").calls(
            "input(1, 2) = 66; lie(1) = false; input(1, 5) = 2132; lie(1) = true; input(1, 6) = 6357; entry(1, 4) = 210358;"
            + "lie(1) = false");
        new Script("promise 11, after 999 comes 0").calls("lie(1) = false; input(1, 820) = 3999; entry(1, 1) = 210000");
        new Script("promise 11, by a message").calls("input(0, 1) = 18; lie(1) = false; deliver() = 1; entry(1, 1) = 210340;"
            + "state(1) = 339; lie(1) = false");
    }

    private static void promise12Tamper() {
        Script s = new Script("promise 12").calls("input(0, 1) = 18; tamper(0, 0, 8) = 1; entry(0, 0) = 8; tamper(0, 0, 999) = 8;"
            + "tamper(0, 0, 0) = 999; tamper(0, 1, 17) = 18; entry(0, 1) = 220017; state(0) = 18; logLength(0) = 2; queued() = 1");
        long first = Script.chained(1, 0, -1, 0);
        s.same("chain(0, 1)", s.object.chain(0, 1), first);
        s.same("chain(0, 2)", s.object.chain(0, 2), Script.chained(first, 2, 1, 17));
        s.calls("undo() = 3; entry(0, 1) = 220018");
        s.same("chain(0, 2) after undo", s.object.chain(0, 2), Script.chained(first, 2, 1, 18));
        s.throwing(INDEX, "tamper(3, 0, 1)", "tamper(-1, 0, 1)", "tamper(0, 2, 1)", "tamper(0, -1, 1)", "tamper(1, 0, 1)",
            "tamper(0, 2, 1000)", "tamper(0, 2147483647, 1)", "tamper(0, -2147483648, 1)");
        s.throwing(ARGUMENT, "tamper(0, 0, 1000)", "tamper(0, 1, -1)", "tamper(0, 0, 2147483647)");
        // what has been sent stays as it was
        s.calls("deliver() = 1; entry(1, 0) = 110018");
    }

    private static void promise13Cut() {
        Script s = new Script("promise 13").calls("input(0, 1) = 18; input(0, 2) = 593; cut(0, 1) = 2; logLength(0) = 2; entry(0, 1) = 220018;"
            + "chain(0, 2) = 1683109627; state(0) = 593; queued() = 1");
        s.throwing(INDEX, "cut(3, 1)", "cut(-1, 1)", "cut(3, 0)", "entry(0, 2)", "chain(0, 3)");
        s.throwing(ARGUMENT, "cut(0, 0)", "cut(0, 3)", "cut(0, -1)", "cut(1, 1)", "cut(0, 2147483647)", "cut(0, -2147483648)");
        s.calls("cut(0, 2) = 0; chain(0, 0) = 1; undo() = 3; logLength(0) = 2; cut(0, 2) = 0").throwing(ARGUMENT, "cut(0, 1)");
        // the log goes on behind what is left
        s.calls("input(0, 3) = 8462; entry(0, 0) = 3");
        s.same("chain(0, 1)", s.object.chain(0, 1), Script.chained(1, 0, -1, 3));
    }

    private static void promise14LogLength() {
        Script s = new Script("promise 14").calls("logLength(0) = 0; input(0, 1) = 18; logLength(0) = 2; deliver() = 1; logLength(1) = 2;"
            + "logLength(2) = 0");
        s.throwing(INDEX, "logLength(3)", "logLength(-1)", "logLength(2147483647)");
    }

    private static void promise15Entry() {
        Script s = new Script("promise 15").calls("input(0, 1) = 18; entry(0, 0) = 1; entry(0, 1) = 220018; deliver() = 1;"
            + "entry(1, 0) = 110018; entry(1, 1) = 210339");
        s.throwing(INDEX, "entry(3, 0)", "entry(-1, 0)", "entry(0, 2)", "entry(0, -1)", "entry(2, 0)", "entry(0, 2147483647)",
            "entry(0, -2147483648)");
    }

    private static void promise16Chain() {
        Script s = new Script("promise 16").calls("chain(0, 0) = 1; chain(2, 0) = 1").throwing(INDEX, "chain(0, 1)");
        s.calls("input(0, 1) = 18; chain(0, 1) = 1000260; chain(0, 2) = 1683109627; deliver() = 1");
        long received = Script.chained(1, 1, 0, 18);
        s.same("chain(1, 1)", s.object.chain(1, 1), received);
        s.same("chain(1, 2)", s.object.chain(1, 2), Script.chained(received, 2, 0, 339));
        s.throwing(INDEX, "chain(3, 0)", "chain(-1, 0)", "chain(0, 3)", "chain(0, -1)", "chain(0, 2147483647)",
            "chain(0, -2147483648)");
    }

    private static void promise17Held() {
        Script s = new Script("promise 17").calls("held(0) = 0; input(0, 1) = 18; held(1) = 0; deliver() = 1; held(0) = 1; held(1) = 1;"
            + "held(2) = 0; deliver() = 0; held(0) = 2; held(1) = 2; undo() = 2; held(0) = 1");
        s.throwing(INDEX, "held(3)", "held(-1)", "held(-2147483648)");
    }

    private static void promise18Authenticator() {
        Script s = new Script("promise 18").calls("input(0, 1) = 18; deliver() = 1; authenticator(1, 0, 0) = 0; authenticator(1, 0, 1) = 1;"
            + "authenticator(1, 0, 2) = 1683109627; authenticator(0, 0, 0) = 1; authenticator(0, 0, 1) = 0");
        s.throwing(INDEX, "authenticator(3, 0, 0)", "authenticator(-1, 0, 0)", "authenticator(1, 1, 0)", "authenticator(1, -1, 0)",
            "authenticator(2, 0, 0)", "authenticator(1, 1, 3)", "authenticator(3, 0, -1)", "authenticator(1, 2147483647, 0)");
        s.throwing(ARGUMENT, "authenticator(1, 0, 3)", "authenticator(1, 0, -1)", "authenticator(0, 0, 2147483647)");

        // 61 messages of machine 0, which is silent, to machine 1: then the oldest authenticator is dropped
        Script many = new Script("promise 18, sixty").calls("reset(2) = 3; setSilent(0, true) = 0");
        long[] made = new long[61];
        for (int i = 0; i < 61; i++) {
            if (i == 20 || i == 40 || i == 60) {
                many.calls("cut(0, " + many.object.logLength(0) + ") = 0");
            }
            if (i % 19 == 0 && i > 0) {
                many.calls("cut(1, " + many.object.logLength(1) + ") = 0");
            }
            many.speak(0, 1);
            made[i] = many.object.chain(0, many.object.logLength(0));
            many.answer("run(2)");
            many.same("held(1)", many.object.held(1), i < 60 ? i + 1 : 60);
        }
        many.calls("held(0) = 60; authenticator(1, 59, 1) = 1; authenticator(1, 0, 1) = 3; authenticator(0, 0, 0) = 1");
        for (int i = 0; i < 60; i++) {
            many.same("authenticator(1, " + i + ", 2)", many.object.authenticator(1, i, 2), made[i + 1]);
        }
        many.throwing(INDEX, "authenticator(1, 60, 0)");
    }

    private static void promise19SetWitnesses() {
        Script s = new Script("promise 19").calls("setWitnesses(0, 4) = 6; setWitnesses(0, 0) = 4; setWitnesses(0, 6) = 0; undo() = 2;"
            + "setWitnesses(0, 2) = 0");
        s.throwing(INDEX, "setWitnesses(3, 1)", "setWitnesses(-1, 1)", "setWitnesses(3, 8)", "setWitnesses(2147483647, 0)");
        s.throwing(ARGUMENT, "setWitnesses(0, 1)", "setWitnesses(0, 7)", "setWitnesses(0, 8)", "setWitnesses(1, 2)",
            "setWitnesses(0, -1)", "setWitnesses(0, -2147483648)", "setWitnesses(2, 4)", "setWitnesses(0, 1073741824)");
        s.calls("audit(1, 0) = 0").throwing(STATE, "audit(2, 0)");
        new Script("promise 19, verdicts are kept").calls("setSilent(0, true) = 0; audit(1, 0) = 1; verdictMask(1) = 1; verdictMask(0) = 7;"
            + "setWitnesses(0, 4) = 6; verdict(1, 0) = 1; verdictMask(1) = 0; verdictMask(0) = 7; setSilent(0, false) = 0; auditAll() = 0;"
            + "verdict(1, 0) = 1; setWitnesses(0, 2) = 4; verdictMask(1) = 1; verdictMask(0) = 6; setWitnesses(0, 0) = 2;"
            + "verdictMask(1) = 0; verdictMask(0) = 6");
        new Script("promise 19, six").calls("reset(6) = 3; setWitnesses(5, 31) = 31; setWitnesses(0, 32) = 62; audit(5, 0) = 0")
            .throwing(ARGUMENT, "setWitnesses(5, 32)", "setWitnesses(5, 64)");
    }

    private static void promise20AuditSteps1And2() {
        Script s = new Script("promise 20").calls("audit(0, 1) = 0; audit(2, 1) = 0; input(0, 1) = 18; audit(1, 0) = 0; audit(2, 0) = 0");
        s.throwing(INDEX, "audit(3, 0)", "audit(0, 3)", "audit(-1, 0)", "audit(0, -1)", "audit(3, 3)", "audit(2147483647, 1)");
        s.throwing(STATE, "audit(0, 0)", "audit(2, 2)");
        // EXPOSED stays, also if the machine is silent, and brings no second piece of evidence
        new Script("promise 20, step 1").calls("input(0, 7) = 120; tamper(0, 0, 8) = 7; audit(1, 0) = 2; evidenceCount() = 1; audit(1, 0) = 2;"
            + "evidenceCount() = 1; tamper(0, 0, 7) = 8; audit(1, 0) = 2; setSilent(0, true) = 0; audit(1, 0) = 2; audit(2, 0) = 1;"
            + "setSilent(0, false) = 0; audit(2, 0) = 0; evidenceCount() = 1");
        // a silent machine is suspected, whatever its log
        new Script("promise 20, step 2").calls("input(0, 7) = 120; tamper(0, 0, 8) = 7; setSilent(0, true) = 0; audit(1, 0) = 1;"
            + "evidenceCount() = 0; setSilent(0, false) = 0; audit(1, 0) = 2; evidenceCount() = 1");
        // a silent witness audits all the same
        new Script("promise 20, a silent witness").calls("input(0, 7) = 120; tamper(0, 0, 8) = 7; setSilent(1, true) = 0; audit(1, 0) = 2");
    }

    private static void promise20AuditMismatch() {
        // machine 1 holds an authenticator for entry 1 of machine 0
        new Script("promise 20, another number").calls("input(0, 1) = 18; deliver() = 1; tamper(0, 0, 2) = 1; audit(2, 0) = 2;"
            + "evidence(0, 0) = 0; evidence(0, 1) = 0; evidence(0, 2) = 2; evidence(0, 3) = 1");
        new Script("promise 20, no such entry").calls("input(0, 1) = 18; deliver() = 1; cut(0, 1) = 1; audit(2, 0) = 2;"
            + "evidence(0, 0) = 0; evidence(0, 3) = 1");
        // a silent holder keeps its authenticators to itself; then the log of machine 0 alone is looked at
        new Script("promise 20, a silent holder").calls("input(0, 1) = 18; deliver() = 1; cut(0, 2) = 0; setSilent(1, true) = 0;"
            + "audit(2, 0) = 0; evidenceCount() = 0; audit(1, 0) = 0; setSilent(1, false) = 0; audit(2, 0) = 2; evidence(0, 0) = 0");
        // the acknowledgement belies, too: machine 0 holds one for entry 0 of machine 1
        new Script("promise 20, an acknowledgement").calls("input(0, 1) = 18; deliver() = 1; cut(1, 2) = 0; audit(2, 1) = 2;"
            + "evidence(0, 0) = 0; evidence(0, 1) = 1; evidence(0, 3) = 0");
        // the order of the holders, and of what they hold: machine 0 holds entries 0 and 1 of machine 1
        new Script("promise 20, the order of authenticators").calls("input(0, 1) = 18; run(2) = 2; cut(1, 2) = 0; audit(2, 1) = 2;"
            + "evidence(0, 3) = 0");
        Script s = new Script("promise 20, the order of holders");
        s.calls("reset(3) = 3");
        s.speak(2, 1);
        s.speak(2, 0);
        s.calls("deliver() = 1; deliver() = 0; cut(2, 4) = 0; audit(1, 2) = 2; evidence(0, 0) = 0; evidence(0, 3) = 3");
        // a log that was cut and has grown again has other numbers
        Script grown = new Script("promise 20, a log that has grown again").calls("input(0, 1) = 18; deliver() = 1; cut(0, 2) = 0");
        grown.keepStill(0);
        grown.keepStill(0);
        grown.calls("audit(1, 0) = 2; evidence(0, 0) = 0; evidence(0, 3) = 1");
        // authenticators of other machines do not matter, nor does the mismatch hide behind the replay
        new Script("promise 20, of others").calls("input(0, 1) = 18; deliver() = 1; tamper(0, 0, 2) = 1; audit(0, 1) = 0; audit(0, 2) = 0");
    }

    private static void promise20AuditReplay() {
        new Script("promise 20, a lie").calls("lie(0) = false; input(0, 1) = 18; audit(1, 0) = 2; evidence(0, 0) = 1; evidence(0, 1) = 0;"
            + "evidence(0, 2) = 1; evidence(0, 3) = 1");
        new Script("promise 20, the log ends too early").calls("input(0, 1) = 18; cut(0, 1) = 1; audit(1, 0) = 2; evidence(0, 0) = 1;"
            + "evidence(0, 3) = 1");
        // with the value 2 the state would be 35, which has no output: the SEND entry does not follow
        new Script("promise 20, a SEND too much").calls("input(0, 1) = 18; tamper(0, 0, 2) = 1; audit(2, 0) = 2; evidence(0, 0) = 1;"
            + "evidence(0, 3) = 1");
        // 593 and 8462 have no output; tampered with, entry 2 has one, and entry 3 is no SEND entry
        Script missing = new Script("promise 20, a SEND too few").calls("input(0, 1) = 18; input(0, 2) = 593; input(0, 3) = 8462");
        missing.calls("tamper(0, 2, " + Script.valueFor(3, 18, 1) + ") = 2; audit(2, 0) = 2; evidence(0, 0) = 1; evidence(0, 3) = 3");
        // another output: with 4 the state is 69, which goes to machine 2
        new Script("promise 20, another peer").calls("input(0, 1) = 18; tamper(0, 0, 4) = 1; tamper(0, 1, 69) = 18; audit(2, 0) = 2;"
            + "evidence(0, 3) = 1");
        // with 7 the state is 120: the peer is the same, the value is not, unless it is tampered with as well
        new Script("promise 20, another value").calls("input(0, 1) = 18; tamper(0, 0, 7) = 1; audit(2, 0) = 2; evidence(0, 3) = 1");
        new Script("promise 20, a forged log").calls("input(0, 1) = 18; tamper(0, 0, 7) = 1; tamper(0, 1, 120) = 18; audit(2, 0) = 0;"
            + "deliver() = 1; audit(2, 0) = 2; evidence(0, 0) = 0; evidence(0, 3) = 1");
        // the entries cut, the state goes on: the replay comes to another state
        new Script("promise 20, cut and gone on").calls("input(0, 1) = 18; cut(0, 2) = 0; audit(1, 0) = 0; input(0, 4) = 627; audit(1, 0) = 2;"
            + "evidence(0, 0) = 1; evidence(0, 3) = 1");
        // RECEIVE entries are replayed with their peer
        new Script("promise 20, honest").calls("input(0, 1) = 18; input(1, 2) = 66; input(2, 0) = 63; run(100) = 4; auditAll() = 0;"
            + "verdictMask(0) = 7; evidenceCount() = 0");
    }

    private static void promise20AuditPending() {
        new Script("promise 20, step 5").calls("setSilent(1, true) = 0; input(0, 1) = 18; deliver() = 1; setSilent(1, false) = 1; audit(0, 1) = 1;"
            + "audit(0, 1) = 1; resend(1) = 1; audit(0, 1) = 0; audit(1, 0) = 0; evidenceCount() = 0");
        // step 4 comes before step 5
        new Script("promise 20, a lie and pending").calls("setSilent(1, true) = 0; input(0, 1) = 18; deliver() = 1; setSilent(1, false) = 1;"
            + "lie(1) = false; input(1, 2) = 66; audit(0, 1) = 2; evidence(0, 0) = 1");
    }

    private static void promise21AuditAll() {
        new Script("promise 21").calls("auditAll() = 0; undo() = 0; setSilent(1, true) = 0; auditAll() = 2; auditAll() = 0; undo() = 2;"
            + "verdict(0, 1) = 1; setSilent(1, false) = 0; auditAll() = 2; verdict(2, 1) = 0");
        Script s = new Script("promise 21, in order").calls("lie(2) = false; input(2, 0) = 63; lie(0) = false; input(0, 1) = 18; auditAll() = 4;"
            + "evidenceCount() = 4; verdictMask(2) = 5; verdictMask(0) = 2");
        s.calls("evidence(0, 1) = 0; evidence(0, 2) = 1; evidence(1, 1) = 0; evidence(1, 2) = 2; evidence(2, 1) = 2; evidence(2, 2) = 0;"
            + "evidence(3, 1) = 2; evidence(3, 2) = 1; auditAll() = 0; evidenceCount() = 4; undo() = 3; evidenceCount() = 4; undo() = 2;"
            + "evidenceCount() = 0; verdict(1, 0) = 0");
        new Script("promise 21, witnesses alone").calls("lie(0) = false; input(0, 1) = 18; setWitnesses(0, 4) = 6; auditAll() = 1;"
            + "verdict(1, 0) = 0; verdict(2, 0) = 2; setWitnesses(0, 0) = 4; auditAll() = 0; setWitnesses(0, 6) = 0; auditAll() = 1");
        Script thirty = new Script("promise 21, thirty pieces").calls("reset(6) = 3");
        for (int x = 0; x < 6; x++) {
            thirty.answer("lie(" + x + ")");
            thirty.speak(x, (x + 1) % 6);
        }
        thirty.calls("auditAll() = 30; evidenceCount() = 30; evidence(29, 1) = 5; evidence(29, 2) = 4; verdictMask(2) = 63;"
            + "verdictMask(0) = 0; auditAll() = 0; evidenceCount() = 30");
    }

    private static void promise22Verdict() {
        Script s = new Script("promise 22").calls("verdict(0, 1) = 0; verdict(1, 1) = 0; setSilent(1, true) = 0; audit(0, 1) = 1; verdict(0, 1) = 1;"
            + "verdict(1, 0) = 0; verdict(2, 1) = 0; verdict(1, 1) = 0; setWitnesses(1, 4) = 5; verdict(0, 1) = 1; lie(0) = false;"
            + "input(0, 1) = 18; audit(2, 0) = 2; verdict(2, 0) = 2; verdict(0, 0) = 0");
        s.throwing(INDEX, "verdict(3, 0)", "verdict(0, 3)", "verdict(-1, 0)", "verdict(0, -1)", "verdict(3, 3)", "verdict(-1, -1)",
            "verdict(2147483647, 2147483647)");
    }

    private static void promise23VerdictMask() {
        Script s = new Script("promise 23").calls("verdictMask(0) = 7; verdictMask(1) = 0; verdictMask(2) = 0; setSilent(1, true) = 0;"
            + "audit(0, 1) = 1; verdictMask(0) = 7; verdictMask(1) = 2; audit(2, 1) = 1; verdictMask(0) = 5; lie(2) = false;"
            + "input(2, 0) = 63; audit(1, 2) = 2; verdictMask(2) = 4; verdictMask(0) = 5; setWitnesses(2, 1) = 3; verdictMask(2) = 0");
        s.throwing(ARGUMENT, "verdictMask(3)", "verdictMask(-1)", "verdictMask(2147483647)", "verdictMask(-2147483648)");
        new Script("promise 23, two and six").calls("reset(2) = 3; verdictMask(0) = 3; reset(6) = 2; verdictMask(0) = 63");
    }

    private static void promise24EvidenceCount() {
        new Script("promise 24").calls("evidenceCount() = 0; lie(0) = false; input(0, 1) = 18; evidenceCount() = 0; audit(1, 0) = 2;"
            + "evidenceCount() = 1; audit(1, 0) = 2; evidenceCount() = 1; audit(2, 0) = 2; evidenceCount() = 2; undo() = 3;"
            + "evidenceCount() = 1; audit(2, 1) = 0; evidenceCount() = 1");
    }

    private static void promise25Evidence() {
        Script s = new Script("promise 25").throwing(INDEX, "evidence(0, 0)", "evidence(0, 4)", "evidence(-1, 0)");
        s.calls("input(0, 1) = 18; deliver() = 1; cut(0, 2) = 0; lie(2) = false; input(2, 0) = 63; audit(1, 2) = 2; audit(2, 0) = 2;"
            + "evidence(0, 0) = 1; evidence(0, 1) = 2; evidence(0, 2) = 1; evidence(0, 3) = 1;"
            + "evidence(1, 0) = 0; evidence(1, 1) = 0; evidence(1, 2) = 2; evidence(1, 3) = 1");
        s.throwing(INDEX, "evidence(2, 0)", "evidence(-1, 3)", "evidence(2, 4)", "evidence(2147483647, 0)", "evidence(-2147483648, 0)");
        s.throwing(ARGUMENT, "evidence(0, 4)", "evidence(1, -1)", "evidence(0, 2147483647)");
    }

    private static void promise26Undo() {
        Script s = new Script("promise 26").throwing(STATE, "undo()");
        s.calls("input(0, 1) = 18; input(0, 2) = 593; input(0, 3) = 8462; input(0, 4) = 3093; input(0, 5) = 6212; input(0, 6) = 3188");
        s.calls("state(0) = 3188; undo() = 3; state(0) = 6212; undo() = 2; state(0) = 3093; undo() = 1; state(0) = 8462; undo() = 0;"
            + "state(0) = 593; logLength(0) = 3");
        s.throwing(STATE, "undo()");
        // a call that throws, or only looks, saves nothing
        s.calls("input(1, 2) = 66").throwing(ARGUMENT, "input(1, 1000)", "run(0)", "reset(9)", "cut(1, 9)").throwing(STATE, "audit(1, 1)");
        s.calls("state(1) = 66; queued() = 2; digest() = " + s.object.digest() + "; verdict(0, 1) = 0; verdictMask(0) = 7; undo() = 0;"
            + "state(1) = 1").throwing(STATE, "undo()");
        // what was undone can be gone another way
        new Script("promise 26, another way").calls("input(0, 1) = 18; input(0, 2) = 593; undo() = 1; input(0, 4) = 627; undo() = 1;"
            + "state(0) = 18; undo() = 0; state(0) = 0; input(0, 4) = 69; undo() = 0; logLength(0) = 0");
        // reset does not touch the stack, and undo brings the number of machines back
        new Script("promise 26, reset").calls("input(0, 1) = 18; reset(6) = 3; reset(2) = 6; undo() = 2; state(5) = 5; undo() = 1; state(0) = 18;"
            + "logLength(0) = 2; queued() = 1; setWitnesses(0, 6) = 6");
    }

    /** Each undoable method saves one state, the one from before, also if it changes nothing. */
    private static void promise26EveryUndoableMethod() {
        String queuedTwo = "input(0, 1) = 18; input(2, 0) = 63; setSilent(1, true) = 0";
        for (String call : new String[] {"reset(4)", "reset(3)", "reset(2)", "input(0, 1)", "input(1, 5)", "deliver()", "run(1)",
                "run(100)", "setSilent(1, true)", "setSilent(1, false)", "setSilent(0, true)", "resend(1)", "lie(0)",
                "tamper(0, 0, 1)", "tamper(0, 1, 500)", "cut(0, 1)", "cut(0, 2)", "setWitnesses(0, 2)", "setWitnesses(0, 6)",
                "audit(1, 0)", "audit(0, 1)", "auditAll()"}) {
            undone(queuedTwo, call);
        }
        String pendingOne = "setSilent(1, true) = 0; input(0, 1) = 18; deliver() = 1";
        for (String call : new String[] {"run(100)", "resend(1)", "resend(2)", "setSilent(1, false)", "reset(3)", "auditAll()"}) {
            undone(pendingOne, call);
        }
        String delivered = "lie(1) = false; input(0, 1) = 18; deliver() = 1";
        for (String call : new String[] {"deliver()", "run(3)", "lie(1)", "audit(0, 1)", "audit(2, 1)", "auditAll()", "reset(6)"}) {
            undone(delivered, call);
        }
    }

    /** Three undoable calls before it: so the stack, whose size the digest has, is not full. */
    private static void undone(String before, String call) {
        Script s = new Script("promise 26, undo of " + call).calls(before);
        long digest = s.object.digest();
        String first = s.answer(call);
        s.same("it ends normally", first.startsWith("throws") ? 0 : 1, 1);
        s.due("undo()", "3");
        s.same("digest()", s.object.digest(), digest);
        s.due(call, first);
        s.calls("undo() = 3; undo() = 2; undo() = 1; undo() = 0").throwing(STATE, "undo()");
        s.same("digest() of a new object", s.object.digest(), new PeerAudit().digest());
    }

    private static void promise27Digest() {
        Script s = new Script("promise 27");
        s.same("a new object", s.object.digest(), Script.folded(0, 3,
            0, 0, 0, 6, 0, 1, 0, 0, 0, 0, 0,
            1, 0, 0, 5, 0, 1, 0, 0, 0, 0, 0,
            2, 0, 0, 3, 0, 1, 0, 0, 0, 0, 0,
            0, 0));
        s.calls("input(0, 1) = 18; deliver() = 1; setSilent(2, true) = 0; lie(2) = false; audit(0, 2) = 1; setWitnesses(1, 4) = 5");
        long received = Script.chained(1, 1, 0, 18);
        s.same("some calls", s.object.digest(), Script.folded(4, 3,
            18, 0, 0, 6, 2, 1, 220018, 1683109627, 1, 0, 0, 0, 0,
            339, 0, 0, 4, 2, 110018, 210339, Script.chained(received, 2, 0, 339), 1, 0, 0, 0, 0,
            2, 1, 1, 3, 0, 1, 0, 0, 1, 0, 0,
            1, 0, 339,
            0));
        Script faults = new Script("promise 27, evidence and pending").calls("reset(2) = 3; lie(0) = false; input(0, 1) = 18; setSilent(1, true) = 0;"
            + "deliver() = 1; audit(1, 0) = 2");
        faults.same("faults", faults.object.digest(), Script.folded(4, 2,
            18, 0, 0, 2, 2, 1, 220019, Script.chained(1000260, 2, 1, 19), 0, 0, 0, 2,
            1, 1, 0, 1, 0, 1, 0, 1, 0, 0,
            0,
            1, 1, 0, 1, 1));
        faults.calls("undo() = 3");
        faults.same("after undo", faults.object.digest(), Script.folded(3, 2,
            18, 0, 0, 2, 2, 1, 220019, Script.chained(1000260, 2, 1, 19), 0, 0, 0, 0,
            1, 1, 0, 1, 0, 1, 0, 1, 0, 0,
            0, 0));
    }
}
