/** All that can be asked of a PeerAudit, as one text: so that two objects, or one before and after, can be compared. */
final class View {
    private View() { }

    static int machines(Subject object) {
        int n = 0;
        while (n < 6) {
            try {
                object.state(n);
            } catch (IndexOutOfBoundsException e) {
                return n;
            }
            n++;
        }
        return n;
    }

    static String of(Subject object) {
        StringBuilder text = new StringBuilder();
        add(text, object.digest(), object.queued());
        int n = machines(object);
        for (int x = 0; x < n; x++) {
            text.append("machine ");
            add(text, x, object.state(x), object.pending(x), object.chain(x, 0));
            for (int k = 0; k < object.logLength(x); k++) {
                add(text, object.entry(x, k), object.chain(x, k + 1));
            }
            for (int i = 0; i < object.held(x); i++) {
                add(text, object.authenticator(x, i, 0), object.authenticator(x, i, 1), object.authenticator(x, i, 2));
            }
            for (int w = 0; w < n; w++) {
                add(text, object.verdict(w, x));
            }
        }
        add(text, object.verdictMask(0), object.verdictMask(1), object.verdictMask(2));
        for (int i = 0; i < object.evidenceCount(); i++) {
            add(text, object.evidence(i, 0), object.evidence(i, 1), object.evidence(i, 2), object.evidence(i, 3));
        }
        return text.toString();
    }

    /** What the undo stack has: it is empty afterwards. */
    static String ofPast(Subject object) {
        StringBuilder text = new StringBuilder(of(object));
        String left = object.answer("undo()");
        while (!left.startsWith("throws")) {
            text.append(left).append(": ").append(of(object));
            left = object.answer("undo()");
        }
        return text.toString();
    }

    /** What the messages of the queue and those that are pending have in them: they are all delivered afterwards. */
    static String ofMessages(Subject object) {
        StringBuilder text = new StringBuilder();
        int n = machines(object);
        for (int x = 0; x < n; x++) {
            object.answer("setSilent(" + x + ", false)");
        }
        for (int round = 0; round <= n; round++) {
            String delivered = "";
            while (!delivered.equals("0")) {
                makeRoom(object, n);
                delivered = object.answer("run(10)");
                text.append(of(object));
            }
            if (round < n) {
                object.answer("resend(" + round + ")");
            }
        }
        return text.toString();
    }

    private static void makeRoom(Subject object, int n) {
        for (int x = 0; x < n; x++) {
            if (object.logLength(x) > 0) {
                object.answer("cut(" + x + ", " + object.logLength(x) + ")");
            }
        }
    }

    private static void add(StringBuilder text, long... values) {
        for (long value : values) {
            text.append(value).append(' ');
        }
    }
}
