/**
 * The boundary cases that the document's "What it is" and "Description" name: each sentence has a test of its own, with
 * the last case on one side of the bound and the first one on the other.
 */
public final class DescriptionEdgesTest {
    private static final String INDEX = Script.INDEX;
    private static final String ARGUMENT = Script.ARGUMENT;
    private static final String STATE = Script.STATE;

    public static void main(String[] args) {
        atMost512Calls();
        machines();
        logs();
        running();
        faultsOfLogs();
        audits();
        Script.end();
    }

    private static void atMost512Calls() {
        Script s = new Script("An object is used for at most 512 calls");
        for (int i = 0; i < 255; i++) {
            s.calls("lie(0) = " + (i % 2 == 1) + "; " + (i % 2 == 1 ? "reset(3) = 3" : "setSilent(1, true) = 0"));
        }
        s.calls("state(2) = 2; undo() = 3");
    }

    // ---- MACHINES

    private static void machines() {
        nIsFrom2To6();
        threeAtFirst();
        stateIsAtFirstItsNumber();
        stateIsFrom0To9972();
        stateModulo9973();
        outputIfDivisibleBy3();
        outputValueModulo1000();
        outputPeerModuloN();
    }

    private static void nIsFrom2To6() {
        Script s = new Script("n is from 2 to 6").calls("reset(2) = 3; state(1) = 1").refused(INDEX, "state(2)");
        s.calls("reset(6) = 2; state(5) = 5").refused(INDEX, "state(6)").refused(ARGUMENT, "reset(1)", "reset(7)");
    }

    private static void threeAtFirst() {
        new Script("3 at first").calls("state(2) = 2; reset(3) = 3").refused(INDEX, "state(3)");
        new Script("3 at first").refused(INDEX, "state(3)", "state(-1)");
    }

    private static void stateIsAtFirstItsNumber() {
        Script s = new Script("a state, which is at first its number").calls("state(0) = 0; state(1) = 1; state(2) = 2");
        for (int n = 2; n <= 6; n++) {
            s.answer("reset(" + n + ")");
            for (int x = 0; x < n; x++) {
                s.calls("state(" + x + ") = " + x + "; input(" + x + ", 999) = " + (31 * x + 17 * 999 + 1) % 9973);
            }
        }
    }

    private static void stateIsFrom0To9972() {
        for (int m : new int[] {0, 1, 9971, 9972}) {
            Script s = new Script("a state from 0 to 9972").lead(0, m).calls("state(0) = " + m);
            // the next state follows from it
            s.calls("input(0, 0) = " + (31 * m + 1) % 9973);
        }
    }

    /** 31 * m + 17 * v + q + 2, with the sums just under and at 9973, and just under and at twice that. */
    private static void stateModulo9973() {
        for (int sum : new int[] {9972, 9973, 19945, 19946}) {
            for (int v = 0; v < 1000; v++) {
                int rest = sum - 17 * v - 1;
                if (rest >= 0 && rest % 31 == 0) {
                    new Script("(31 * m + 17 * v + q + 2) modulo 9973").lead(1, rest / 31)
                        .calls("input(1, " + v + ") = " + (sum % 9973 == 0 ? 0 : 9972));
                    break;
                }
            }
        }
        // the peer counts: -1 for an input, 0 and 5 for messages
        Script peers = new Script("a value v from a peer q").calls("reset(6) = 3").speak(0, 1).speak(5, 1);
        int first = peers.object.entry(0, 1) % 10000;
        int second = peers.object.entry(5, 1) % 10000;
        int m = (31 + 17 * first + 2) % 9973;
        peers.calls("deliver() = 1; state(1) = " + m);
        peers.calls("run(1) = 1; state(1) = " + (31 * m + 17 * second + 5 + 2) % 9973);
    }

    private static void outputIfDivisibleBy3() {
        for (int m : new int[] {0, 1, 2, 3, 9969, 9970, 9971, 9972}) {
            int entries = m % 3 == 0 ? 3 : 2;
            new Script("if the new m is divisible by 3").lead(0, m)
                .calls("logLength(0) = " + entries + "; queued() = " + (entries - 2));
        }
    }

    private static void outputValueModulo1000() {
        for (int m : new int[] {0, 999, 1002, 1998, 3000, 8997, 9000, 9972}) {
            // of two machines the other one is always the peer
            new Script("the value m modulo 1000").calls("reset(2) = 3").lead(0, m)
                .calls("entry(0, 2) = " + (220000 + m % 1000) + "; deliver() = 1; entry(1, 0) = " + (110000 + m % 1000));
        }
    }

    /** Each machine of each number of machines, with some states of which the greatest is 9972. */
    private static void outputPeerModuloN() {
        for (int n = 2; n <= 6; n++) {
            for (int x = 0; x < n; x++) {
                for (int m : new int[] {0, 3, 6, 9, 12, 9972}) {
                    int peer = x + 1 + m % (n - 1);
                    while (peer >= n) {
                        peer -= n;
                    }
                    Script s = new Script("(own number + 1 + (m modulo (n - 1))) modulo n");
                    s.answer("reset(" + n + ")");
                    s.lead(x, m).calls("entry(" + x + ", 2) = " + (200000 + 10000 * (peer + 1) + m % 1000) + "; deliver() = "
                        + peer);
                }
            }
        }
    }

    // ---- LOGS

    private static void logs() {
        logOfAtMost40Entries();
        entriesOfEachKind();
        chainOfAnEmptyLog();
        chainModulo();
        authenticatorsOfTheFirstAndTheLastEntry();
        holdsAtMost60ByMessages();
        holdsAtMost60ByAcknowledgements();
        aDroppedAuthenticatorIsGone();
    }

    private static void logOfAtMost40Entries() {
        Script inputs = new Script("a log of at most 40 entries, by inputs");
        for (int i = 0; i < 20; i++) {
            inputs.calls("logLength(0) = " + 2 * i).speak(0, 1);
        }
        inputs.calls("logLength(0) = 40; entry(0, 39) = " + (220000 + inputs.object.state(0) % 1000));
        inputs.refused(STATE, "input(0, 0)").refused(INDEX, "entry(0, 40)").calls("logLength(0) = 40");

        Script messages = new Script("a log of at most 40 entries, by messages");
        messages.speak(1, 0);
        for (int i = 0; i < 38; i++) {
            messages.keepStill(0);
        }
        int sent = messages.object.entry(1, 1) % 10000;
        int m = (31 * messages.object.state(0) + 17 * sent + 1 + 2) % 9973;
        int entries = m % 3 == 0 ? 40 : 39;
        messages.calls("logLength(0) = 38; deliver() = 0; state(0) = " + m + "; logLength(0) = " + entries);
        messages.refused(STATE, "input(0, 0)").calls("logLength(0) = " + entries);
    }

    private static void entriesOfEachKind() {
        // RECEIVE from the first and from the last machine, SEND to the first and to the last one
        Script s = new Script("INPUT (0) with the peer -1, RECEIVE (1), SEND (2)").calls("reset(6) = 3").speak(0, 5).speak(5, 0);
        int toLast = s.object.state(0) % 1000;
        int toFirst = s.object.state(5) % 1000;
        s.calls("entry(0, 1) = " + (260000 + toLast) + "; entry(5, 1) = " + (210000 + toFirst) + "; deliver() = 5");
        s.calls("entry(5, 2) = " + (110000 + toLast) + "; deliver() = 0; entry(0, 2) = " + (160000 + toFirst));
        new Script("INPUT (0) with the peer -1").calls("input(0, 0) = 1; entry(0, 0) = 0; input(1, 999) = " + (32
            + 17 * 999) % 9973
            + "; entry(1, 0) = 999");
    }

    private static void chainOfAnEmptyLog() {
        Script s = new Script("h(0) = 1").calls("chain(0, 0) = 1; chain(2, 0) = 1").refused(INDEX, "chain(0, 1)");
        s.calls("input(0, 1) = 18; chain(0, 0) = 1; cut(0, 2) = 0; chain(0, 0) = 1").refused(INDEX, "chain(0, 1)");
    }

    /** The least and the greatest number that there is modulo 2147483647: the values were sought for these. */
    private static void chainModulo() {
        chainOf(0, 307, 410, 166, 3);
        chainOf(2147483646, 363, 935, 123, 3);
        // and from these numbers the chain goes on
        long after = Script.chained(2147483646L, 0, -1, 999);
        Script s = chainOf(2147483646, 117, 193, 77, 4);
        s.keepStill(0).answer("tamper(0, 4, 999)");
        s.calls("chain(0, 5) = " + after);
        Script zero = chainOf(0, 926, 891, 266, 4).keepStill(0);
        zero.answer("tamper(0, 4, 1)");
        zero.calls("chain(0, 5) = 257");
    }

    private static Script chainOf(int last, int... values) {
        Script s = new Script("h(k + 1) = (..) modulo 2147483647");
        long h = 1;
        for (int k = 0; k < values.length; k++) {
            s.keepStill(0).answer("tamper(0, " + k + ", " + values[k] + ")");
            h = Script.chained(h, 0, -1, values[k]);
            s.calls("chain(0, " + (k + 1) + ") = " + h);
        }
        return s.calls("chain(0, " + values.length + ") = " + last);
    }

    private static void authenticatorsOfTheFirstAndTheLastEntry() {
        Script s = new Script("the triple of the machine, k and the number h(k + 1)");
        for (int i = 0; i < 20; i++) {
            s.speak(0, 1);
        }
        s.calls("setSilent(1, true) = 0; run(19) = 19; setSilent(1, false) = 19; deliver() = 1");
        // machine 1 has the one for the last entry that a log may have, machine 0 the one for the first entry
        s.calls("held(1) = 1; authenticator(1, 0, 0) = 0; authenticator(1, 0, 1) = 39; authenticator(1, 0, 2) = "
            + s.object.chain(0, 40));
        s.calls("held(0) = 1; authenticator(0, 0, 0) = 1; authenticator(0, 0, 1) = 0; authenticator(0, 0, 2) = "
            + s.object.chain(1, 1));
    }

    private static void holdsAtMost60ByMessages() {
        Script s = new Script("It holds at most 60 of them, by messages");
        long[] made = new long[63];
        for (int i = 1; i <= 62; i++) {
            exchange(s, 0, 1);
            made[i] = s.object.chain(0, 2);
            int held = i <= 60 ? i : 60;
            s.calls("held(1) = " + held + "; authenticator(1, " + (held - 1) + ", 2) = " + made[i]);
            // the oldest one is the first one until there are 60, then the second, the third
            s.calls("authenticator(1, 0, 2) = " + made[i <= 60 ? 1 : i - 59]);
        }
        for (int i = 0; i < 60; i++) {
            s.calls("authenticator(1, " + i + ", 2) = " + made[i + 3]);
        }
        s.refused(INDEX, "authenticator(1, 60, 0)", "authenticator(1, -1, 0)");
        // undo brings the one back that was dropped
        s.calls("undo() = 3; held(1) = 60; authenticator(1, 0, 2) = " + made[2] + "; authenticator(1, 59, 2) = " + made[61]);
    }

    private static void holdsAtMost60ByAcknowledgements() {
        Script s = new Script("It holds at most 60 of them, by acknowledgements");
        long[] made = new long[63];
        for (int i = 1; i <= 62; i++) {
            exchange(s, 0, 1);
            made[i] = s.object.chain(1, 1);
            int held = i <= 60 ? i : 60;
            s.calls("held(0) = " + held + "; authenticator(0, " + (held - 1) + ", 2) = " + made[i]);
            s.calls("authenticator(0, 0, 2) = " + made[i <= 60 ? 1 : i - 59]);
        }
        s.refused(INDEX, "authenticator(0, 60, 0)");
    }

    /** The log of machine 0 is cut: the first authenticator of 60 belies it, until another one comes and it is dropped. */
    private static void aDroppedAuthenticatorIsGone() {
        Script s = new Script("when it gets another one, the oldest one is dropped");
        exchange(s, 0, 1);
        clear(s, 0);
        for (int i = 0; i < 59; i++) {
            exchange(s, 2, 1);
        }
        s.calls("held(1) = 60; authenticator(1, 0, 0) = 0; audit(2, 0) = 2; evidence(0, 0) = 0; evidence(0, 3) = 1; undo() = 3");
        exchange(s, 2, 1);
        s.calls("held(1) = 60; authenticator(1, 0, 0) = 2; audit(2, 0) = 0; evidenceCount() = 0");
    }

    /** One message goes from one machine to another, which has no output then; their logs have nothing else. */
    private static void exchange(Script s, int from, int to) {
        clear(s, from);
        clear(s, to);
        int n = View.machines(s.object);
        int v = 0;
        while (!isHeardInSilence(s.object, n, from, to, v)) {
            v++;
        }
        s.answer("input(" + from + ", " + v + ")");
        s.calls("run(100) = 1; logLength(" + from + ") = 2; logLength(" + to + ") = 1");
    }

    private static boolean isHeardInSilence(Subject object, int n, int from, int to, int v) {
        int m = (31 * object.state(from) + 17 * v + 1) % 9973;
        int heard = (31 * object.state(to) + 17 * (m % 1000) + from + 2) % 9973;
        return m % 3 == 0 && (from + 1 + m % (n - 1)) % n == to && heard % 3 != 0;
    }

    private static void clear(Script s, int machine) {
        int length = s.object.logLength(machine);
        if (length > 0) {
            s.calls("cut(" + machine + ", " + length + ") = 0");
        }
    }

    // ---- RUNNING

    private static void running() {
        queueOfAtMost40Messages();
        lieModulo1000();
        lieAtTheNextOutputAlone();
        pendingAtTheEndOfTheList();
        fortyPendingAndOneMore();
        nothingElseHappens();
        thenTheSenderGetsTheAcknowledgement();
        roomForAnInput();
        roomForAMessage();
        theMessageThatIsBeingDeliveredIsNotCounted();
    }

    private static void queueOfAtMost40Messages() {
        Script s = Script.fortyQueued("one queue of at most 40 messages");
        // with 0 machine 2 would have an output, with 1 it would not
        s.refused(STATE, "input(2, 0)", "input(2, 1)").calls("queued() = 40; undo() = 3; queued() = 39; state(2) = 2");
        s.calls("input(2, 0) = 63; queued() = 40").refused(STATE, "input(2, 0)", "input(2, 1)");
        s.calls("undo() = 3; input(2, 1) = 80; queued() = 39");
    }

    private static void lieModulo1000() {
        int[][] valuesAndLies = {{0, 1}, {3, 4}, {999, 0}, {1998, 999}, {3000, 1}, {3999, 0}, {6999, 0}, {9972, 973}};
        for (int[] pair : valuesAndLies) {
            Script s = new Script("the value (value + 1) modulo 1000").calls("reset(2) = 3; lie(0) = false").lead(0, pair[0]);
            s.calls("entry(0, 2) = " + (220000 + pair[1]) + "; state(0) = " + pair[0]);
            s.calls("deliver() = 1; entry(1, 0) = " + (110000 + pair[1]));
        }
    }

    private static void lieAtTheNextOutputAlone() {
        Script s = new Script("and is not about to lie any more").calls("reset(2) = 3; lie(0) = false; lie(0) = true")
            .lead(0, 999);
        s.calls("entry(0, 2) = 220000").lead(0, 999).calls("entry(0, 5) = 220999; lie(0) = false");
        // as long as there is no output, it is about to lie
        Script still = new Script("at its next output").calls("reset(2) = 3; lie(0) = false");
        for (int i = 0; i < 10; i++) {
            still.keepStill(0);
        }
        still.calls("lie(0) = true").lead(0, 999).calls("entry(0, 12) = 220000; lie(0) = false");
        // the others do not lie
        new Script("a machine may be about to lie").calls("reset(2) = 3; lie(0) = false").lead(1, 999)
            .calls("entry(1, 2) = 210999; lie(0) = true");
    }

    private static void pendingAtTheEndOfTheList() {
        Script s = new Script("at the end of the list of messages that are pending for it");
        s.calls("setSilent(2, true) = 0; pending(2) = 0").speak(0, 2).speak(1, 2).calls("run(100) = 2; pending(2) = 2");
        int first = s.object.state(0) % 1000;
        int second = s.object.state(1) % 1000;
        s.speak(0, 2).calls("run(100) = 1; pending(2) = 3; setSilent(2, false) = 3; resend(2) = 3");
        int third = s.object.state(0) % 1000;
        s.calls("deliver() = 2; entry(2, 0) = " + (110000 + first));
        clear(s, 2);
        s.calls("deliver() = 2; entry(2, 0) = " + (120000 + second));
        clear(s, 2);
        s.calls("deliver() = 2; entry(2, 0) = " + (110000 + third));
    }

    /** The 41st is lost, and it is that one, not the first of those that are pending. */
    private static void fortyPendingAndOneMore() {
        Script s = Script.fortyQueued("if 40 messages are pending for it already, the message is lost");
        int[] expected = new int[40];
        for (int i = 0; i < 40; i++) {
            int sender = i % 2;
            expected[i] = 110000 + 10000 * sender + s.object.entry(sender, 2 * (i / 2) + 1) % 10000;
        }
        s.calls("setSilent(2, true) = 0; run(39) = 39; pending(2) = 39; queued() = 1; deliver() = 2; pending(2) = 40;"
            + "queued() = 0");
        s.calls("cut(1, 40) = 0").speak(1, 2).speak(1, 2).calls("queued() = 2; deliver() = 2; pending(2) = 40; queued() = 1");
        s.calls("run(100) = 1; pending(2) = 40; queued() = 0; held(1) = 0; held(2) = 0; setSilent(2, false) = 40;"
            + "resend(2) = 40");
        for (int i = 0; i < 40; i++) {
            s.calls("deliver() = 2; entry(2, 0) = " + expected[i]);
            clear(s, 2);
        }
    }

    private static void nothingElseHappens() {
        Script s = new Script("the message becomes pending, and nothing else happens")
            .calls("input(0, 1) = 18; setSilent(1, true) = 0; lie(1) = false");
        s.calls("deliver() = 1; pending(1) = 1; state(1) = 1; logLength(1) = 0; held(1) = 0; held(0) = 0; queued() = 0;"
            + "lie(1) = true");
        // it stays pending when the machine speaks again
        s.calls("setSilent(1, false) = 1; pending(1) = 1; queued() = 0; deliver() = -1; run(100) = 0; pending(1) = 1");
    }

    /** Every sender gets it, a silent one and one without room, too. */
    private static void thenTheSenderGetsTheAcknowledgement() {
        String title = "and then the sender gets an authenticator for the RECEIVE entry (the acknowledgement)";
        String acknowledged = "deliver() = 1; held(1) = 1; held(0) = 1; authenticator(0, 0, 0) = 1; authenticator(0, 0, 1) = 0;"
            + "authenticator(0, 0, 2) = ";
        for (boolean silent : new boolean[] {false, true}) {
            new Script(title).calls("input(0, 1) = 18; setSilent(0, " + silent + ") = 0; " + acknowledged
                + Script.chained(1, 1, 0, 18) + "; pending(0) = 0");
        }
        Script full = new Script(title);
        for (int i = 0; i < 20; i++) {
            full.speak(0, 1);
        }
        int sent = full.object.entry(0, 1) % 10000;
        full.calls("logLength(0) = 40; " + acknowledged + Script.chained(1, 1, 0, sent) + "; logLength(0) = 40");
    }

    private static void roomForAnInput() {
        Script s = new Script("room if its log has at most 38 entries");
        for (int i = 0; i < 38; i++) {
            s.keepStill(0);
        }
        // both with an output and without one
        s.calls("logLength(0) = 38").speak(0, 1).calls("logLength(0) = 40; undo() = 3; logLength(0) = 38").keepStill(0);
        s.calls("logLength(0) = 39");
        for (int v = 0; v < 3; v++) {
            s.refused(STATE, "input(0, " + v + ")");
        }
        s.calls("input(1, 2) = 66; queued() = 1; cut(0, 1) = 38").speak(0, 1).calls("logLength(0) = 40")
            .refused(STATE, "input(0, 0)");

        Script queue = Script.fortyQueued("room if the queue has at most 39 messages");
        queue.refused(STATE, "input(2, 0)").calls("deliver() = 2");
        queue.calls("cut(2, " + queue.object.logLength(2) + ") = 0; undo() = 3; undo() = 2; undo() = 1; queued() = 39;"
            + "input(2, 0) = 63");
        // a silent machine has no more room than others
        queue.calls("setSilent(2, true) = 0").refused(STATE, "input(2, 0)");
    }

    private static void roomForAMessage() {
        for (int length = 37; length <= 39; length++) {
            Script s = new Script("a receiver with " + length + " entries").speak(1, 0);
            for (int i = 0; i < length; i++) {
                s.keepStill(0);
            }
            s.calls("logLength(0) = " + length);
            if (length <= 38) {
                s.calls("deliver() = 0; undo() = 3; run(1) = 1");
            } else {
                s.refused(STATE, "deliver()").calls("run(1) = 0; queued() = 1; setSilent(0, true) = 0; deliver() = 0;"
                    + "pending(0) = 1");
            }
        }
        Script full = new Script("a receiver with 40 entries").speak(1, 0);
        for (int i = 0; i < 20; i++) {
            full.speak(0, 1);
        }
        full.calls("logLength(0) = 40; queued() = 21").refused(STATE, "deliver()").calls("run(100) = 0; queued() = 21");
    }

    /** 40 messages in the queue, the first of them for machine 2: once it has an output, once it has none. */
    private static void theMessageThatIsBeingDeliveredIsNotCounted() {
        boolean[] seen = new boolean[2];
        for (int m = 1; !seen[0] || !seen[1]; m++) {
            if (m % 3 == 0) {
                continue;
            }
            Script s = new Script("the message that is being delivered not counted").lead(2, m);
            for (int i = 0; i < 20; i++) {
                s.speak(0, 2).speak(1, 2);
            }
            int value = s.object.entry(0, 1) % 10000;
            int outputs = (31 * m + 17 * value + 2) % 9973 % 3 == 0 ? 1 : 0;
            if (!seen[outputs]) {
                seen[outputs] = true;
                s.calls("queued() = 40; deliver() = 2; queued() = " + (39 + outputs) + "; logLength(2) = " + (3 + outputs));
                s.calls("undo() = 3; queued() = 40; run(1) = 1; queued() = " + (39 + outputs));
            }
        }
    }

    // ---- FAULTS OF LOGS

    private static void faultsOfLogs() {
        tamperWithTheFirstAndTheLastEntry();
        cutOneEntryAndAllOfThem();
    }

    private static void tamperWithTheFirstAndTheLastEntry() {
        Script s = new Script("the chain is computed anew for the new entries, the state of the machine stays");
        for (int i = 0; i < 20; i++) {
            s.speak(0, 1);
        }
        int state = s.object.state(0);
        int sent = s.object.entry(0, 39) % 10000;
        int before = s.object.chain(0, 39);
        s.calls("tamper(0, 39, " + (sent + 1) % 1000 + ") = " + sent + "; chain(0, 39) = " + before);
        chainFollows(s, 40);
        int first = s.object.entry(0, 0);
        s.calls("tamper(0, 0, " + (first + 1) % 1000 + ") = " + first);
        chainFollows(s, 40);
        s.calls("state(0) = " + state + "; logLength(0) = 40; queued() = 20")
            .refused(INDEX, "tamper(0, 40, 0)", "tamper(0, -1, 0)");
    }

    /** The chain of machine 0 is the one of its entries. */
    private static void chainFollows(Script s, int length) {
        long h = 1;
        for (int k = 0; k < length; k++) {
            int entry = s.object.entry(0, k);
            h = Script.chained(h, entry / 100000, entry / 10000 % 10 - 1, entry % 10000);
            s.calls("chain(0, " + (k + 1) + ") = " + h);
        }
    }

    private static void cutOneEntryAndAllOfThem() {
        Script s = new Script("to remove its last entries; the state of the machine stays");
        for (int i = 0; i < 20; i++) {
            s.speak(0, 1);
        }
        int state = s.object.state(0);
        int left = s.object.chain(0, 39);
        s.calls("cut(0, 1) = 39; chain(0, 39) = " + left + "; state(0) = " + state + "; queued() = 20");
        s.refused(INDEX, "entry(0, 39)", "chain(0, 40)");
        chainFollows(s, 39);
        s.calls("undo() = 3; cut(0, 40) = 0; logLength(0) = 0; chain(0, 0) = 1; state(0) = " + state + "; queued() = 20");
        s.refused(INDEX, "entry(0, 0)", "chain(0, 1)").keepStill(0).calls("logLength(0) = 1");
        chainFollows(s, 1);
    }

    // ---- AUDITS

    private static void audits() {
        atFirstAllOthers();
        trustedAtFirst();
        exposedStays();
        silentIsSuspected();
        noEntryWithThisNumber();
        aDifferentNumber();
        holdersFrom0ToNMinus1();
        theFirstHolderAndTheFirstOfItsAuthenticators();
        replayOfAnEmptyLog();
        whereItShouldBeIfTheLogEndsBefore();
        theLastPlaceOfALog();
        thisPeerAndThisValue();
        aSendEntryThatDoesNotFollow();
        theFirstEntryForWhichThisDoesNotHold();
        pendingMessages();
        atMost30Pieces();
        onlyOnce();
    }

    private static void atFirstAllOthers() {
        Script s = new Script("at first all others").calls("setWitnesses(0, 0) = 6; setWitnesses(1, 0) = 5;"
            + "setWitnesses(2, 0) = 3");
        for (int n = 2; n <= 6; n++) {
            s.answer("reset(" + n + ")");
            for (int x = 0; x < n; x++) {
                int others = 0;
                for (int w = 0; w < n; w++) {
                    others += w == x ? 0 : 1 << w;
                }
                s.calls("setWitnesses(" + x + ", 0) = " + others);
            }
        }
    }

    private static void trustedAtFirst() {
        Script s = new Script("TRUSTED (0, at first)");
        for (int n = 2; n <= 6; n++) {
            s.answer("reset(" + n + ")");
            for (int x = 0; x < n; x++) {
                for (int w = 0; w < n; w++) {
                    s.calls("verdict(" + w + ", " + x + ") = 0");
                }
            }
            s.calls("lie(1) = false").speak(1, 2 % n).calls("setSilent(0, true) = 0; auditAll() = " + 2 * (n - 1));
        }
    }

    private static void exposedStays() {
        Script s = new Script("(1) If the verdict is EXPOSED, it stays")
            .calls("lie(0) = false; input(0, 1) = 18; audit(1, 0) = 2");
        s.calls("audit(1, 0) = 2; setSilent(0, true) = 0; audit(1, 0) = 2; setSilent(0, false) = 0; cut(0, 2) = 0;"
            + "audit(1, 0) = 2;"
            + "evidenceCount() = 1; audit(2, 0) = 0; auditAll() = 0; evidenceCount() = 1; verdict(1, 0) = 2");
        // also if it was no witness meanwhile
        s.calls("setWitnesses(0, 4) = 6; setWitnesses(0, 6) = 4; audit(1, 0) = 2; evidenceCount() = 1");
    }

    private static void silentIsSuspected() {
        Script s = new Script("(2) If x is silent, the verdict becomes SUSPECTED")
            .calls("setSilent(0, true) = 0; audit(1, 0) = 1; audit(1, 0) = 1");
        s.calls("lie(0) = false; input(0, 1) = 18; audit(2, 0) = 1; evidenceCount() = 0; setSilent(0, false) = 0;"
            + "audit(2, 0) = 2;"
            + "evidenceCount() = 1");
    }

    /** Machine 1 holds an authenticator for entry 1 of machine 0, and machine 0 one for entry 0 of machine 1. */
    private static void noEntryWithThisNumber() {
        Script s = new Script("if the log of x has no entry with this number").calls("input(0, 1) = 18; deliver() = 1")
            .keepStill(0).keepStill(0);
        s.calls("logLength(0) = 4; audit(2, 0) = 0; cut(0, 1) = 3; audit(2, 0) = 0; cut(0, 1) = 2; audit(2, 0) = 0");
        s.calls("cut(0, 1) = 1; audit(2, 0) = 2; evidence(0, 0) = 0; evidence(0, 3) = 1; cut(0, 1) = 0; audit(1, 0) = 2;"
            + "evidence(1, 0) = 0");
        s.calls("cut(1, 1) = 1; audit(0, 1) = 2; evidence(2, 0) = 1; evidence(2, 3) = 1; cut(1, 1) = 0; audit(2, 1) = 2;"
            + "evidence(3, 0) = 0; evidence(3, 3) = 0");
    }

    private static void aDifferentNumber() {
        Script s = new Script("the number of the chain of x at this place is different")
            .calls("input(0, 1) = 18; deliver() = 1").keepStill(0);
        // behind its place nothing matters to an authenticator; 593 comes from 2, and from 3 comes 610, both without an output
        s.calls("tamper(0, 2, 3) = " + s.object.entry(0, 2) + "; audit(2, 0) = 0");
        s.calls("tamper(0, 1, 19) = 18; audit(2, 0) = 2; evidence(0, 0) = 0; evidence(0, 3) = 1; undo() = 3;"
            + "tamper(0, 1, 18) = 19; audit(2, 0) = 0");
        s.calls("tamper(0, 0, 2) = 1; audit(2, 0) = 2; evidence(0, 0) = 0; evidence(0, 3) = 1");
    }

    private static void holdersFrom0ToNMinus1() {
        for (int n = 2; n <= 6; n++) {
            // n = 4: a machine can only send to the next one, as every m that is divisible by 3 is 0 modulo 3
            int[][] pairs = n == 4 ? new int[][] {{3, 0}, {2, 3}} : new int[][] {{n - 1, 0}, {0, n - 1}};
            for (int[] pair : pairs) {
                int x = pair[0];
                int holder = pair[1];
                int witness = n == 2 ? holder : (x + 1) % n == holder ? (x + 2) % n : (x + 1) % n;
                Script s = new Script("For the holders from 0 to " + (n - 1) + " that are not silent");
                s.answer("reset(" + n + ")");
                s.speak(x, holder).calls("deliver() = " + holder + "; cut(" + x + ", 2) = 0; setSilent(" + holder
                    + ", true) = 0");
                s.calls("audit(" + witness + ", " + x + ") = 0; setSilent(" + holder + ", false) = 0");
                s.calls("audit(" + witness + ", " + x + ") = 2; evidence(0, 0) = 0; evidence(0, 1) = " + x + ";"
                    + "evidence(0, 3) = 1");
            }
        }
    }

    private static void theFirstHolderAndTheFirstOfItsAuthenticators() {
        // machine 1 gets entry 1, then machine 0 gets entry 3 and entry 5
        Script s = new Script("in the order in which they hold them").speak(2, 1).speak(2, 0).speak(2, 0);
        s.calls("deliver() = 1; deliver() = 0; deliver() = 0; cut(2, 6) = 0; audit(1, 2) = 2; evidence(0, 3) = 3");
        s.calls("setSilent(0, true) = 0; audit(0, 2) = 2; evidence(1, 3) = 1");
    }

    private static void replayOfAnEmptyLog() {
        Script s = new Script("(4) The log is replayed, an empty one")
            .calls("audit(1, 0) = 0; input(0, 1) = 18; cut(0, 2) = 0; audit(1, 0) = 0");
        s.calls("evidenceCount() = 0; verdictMask(2) = 0");
    }

    private static void whereItShouldBeIfTheLogEndsBefore() {
        new Script("where it should be if the log ends before")
            .calls("input(0, 1) = 18; audit(1, 0) = 0; cut(0, 1) = 1; audit(1, 0) = 2;"
            + "evidence(0, 0) = 1; evidence(0, 3) = 1");
        // the last entry of a log that has no room any more is made one with an output
        Script s = new Script("where it should be if the log ends before, at 39");
        for (int i = 0; i < 38; i++) {
            s.keepStill(0);
        }
        int v = Script.valueFor(3, s.object.state(0), 1);
        s.keepStill(0).calls("logLength(0) = 39; audit(1, 0) = 0");
        s.answer("tamper(0, 38, " + v + ")");
        s.calls("audit(1, 0) = 2; evidence(0, 0) = 1; evidence(0, 3) = 39");
    }

    private static void theLastPlaceOfALog() {
        Script s = new Script("the entry that should be that SEND entry, at 39");
        for (int i = 0; i < 19; i++) {
            s.speak(0, 1);
        }
        s.calls("lie(0) = false").speak(0, 1).calls("logLength(0) = 40; audit(1, 0) = 2; evidence(0, 0) = 1;"
            + "evidence(0, 3) = 39");
        Script honest = new Script("a full log without a fault");
        for (int i = 0; i < 20; i++) {
            honest.speak(0, 1);
        }
        honest.calls("logLength(0) = 40; audit(1, 0) = 0; evidenceCount() = 0");
    }

    private static void thisPeerAndThisValue() {
        // from 7 comes 120 for machine 1, as from 1 comes 18 for machine 1; from 4 comes 69 for machine 2
        new Script("a SEND entry with this peer and this value")
            .calls("input(0, 1) = 18; tamper(0, 0, 7) = 1; tamper(0, 1, 120) = 18; audit(1, 0) = 0;"
            + "tamper(0, 1, 121) = 120; audit(1, 0) = 2; evidence(0, 3) = 1; tamper(0, 1, 119) = 121; audit(2, 0) = 2;"
            + "evidence(1, 3) = 1");
        new Script("a SEND entry with this peer").calls("input(0, 1) = 18; tamper(0, 0, 4) = 1; tamper(0, 1, 69) = 18;"
            + "audit(1, 0) = 2;"
            + "evidence(0, 0) = 1; evidence(0, 3) = 1");
    }

    private static void aSendEntryThatDoesNotFollow() {
        // from 2 comes 35, which has no output
        new Script("a SEND entry that does not follow in this way")
            .calls("input(0, 1) = 18; tamper(0, 0, 2) = 1; audit(1, 0) = 2;"
            + "evidence(0, 0) = 1; evidence(0, 3) = 1");
        // an entry of another kind where the SEND entry should be, with the peer and the value that are due
        Script s = new Script("the next entry must be a SEND entry")
            .calls("input(0, 1) = 18; cut(0, 1) = 1; input(0, 18) = 865; audit(1, 0) = 2");
        s.calls("evidence(0, 0) = 1; evidence(0, 3) = 1");
    }

    private static void theFirstEntryForWhichThisDoesNotHold() {
        Script s = new Script("The first entry for which this does not hold").calls("lie(0) = false").speak(0, 1)
            .calls("lie(0) = false").speak(0, 1);
        s.calls("audit(1, 0) = 2; evidence(0, 3) = 1");
        int sent = s.object.entry(0, 1) % 10000;
        s.calls("tamper(0, 1, " + (sent + 999) % 1000 + ") = " + sent + "; audit(2, 0) = 2; evidence(1, 3) = 3");
    }

    private static void pendingMessages() {
        Script s = new Script("(5) If messages are pending for x").speak(0, 1).speak(2, 1)
            .calls("setSilent(1, true) = 0; run(2) = 2; setSilent(1, false) = 2");
        s.calls("audit(0, 1) = 1; undo() = 3; resend(1) = 2; audit(0, 1) = 0");
        Script one = new Script("one message is pending for x").speak(0, 1)
            .calls("setSilent(1, true) = 0; run(2) = 1; setSilent(1, false) = 1");
        one.calls("audit(0, 1) = 1; audit(0, 2) = 0; audit(2, 0) = 0; resend(1) = 1; audit(0, 1) = 0; evidenceCount() = 0");
    }

    private static void atMost30Pieces() {
        Script s = new Script("There are at most 30 pieces").calls("reset(6) = 3");
        for (int x = 0; x < 6; x++) {
            s.calls("lie(" + x + ") = false").speak(x, (x + 1) % 6);
        }
        int pieces = 0;
        for (int x = 0; x < 6; x++) {
            for (int w = 0; w < 6; w++) {
                if (w != x) {
                    s.calls("evidenceCount() = " + pieces + "; audit(" + w + ", " + x + ") = 2");
                    s.calls("evidence(" + pieces + ", 0) = 1; evidence(" + pieces + ", 1) = " + x + "; evidence(" + pieces
                        + ", 2) = " + w
                        + "; evidence(" + pieces + ", 3) = 1");
                    pieces++;
                }
            }
        }
        s.calls("evidenceCount() = 30; auditAll() = 0; evidenceCount() = 30; audit(4, 5) = 2; evidenceCount() = 30");
        s.refused(INDEX, "evidence(30, 0)", "evidence(-1, 0)");
    }

    private static void onlyOnce() {
        Script s = new Script("each machine exposes another one only once")
            .calls("lie(0) = false; input(0, 1) = 18; audit(1, 0) = 2; audit(1, 0) = 2");
        s.calls("auditAll() = 1; auditAll() = 0; evidenceCount() = 2; setWitnesses(0, 0) = 6; setWitnesses(0, 6) = 0;"
            + "auditAll() = 0; evidenceCount() = 2");
    }
}
