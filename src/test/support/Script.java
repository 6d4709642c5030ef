import java.lang.reflect.InvocationTargetException;
import java.lang.reflect.Method;

/**
 * Calls on one new PeerAudit, written as the document writes its examples: "call = answer; call = answer", with
 * "throws E" as the answer of a call that must throw E. Every answer that is not as due is printed and counted.
 */
final class Script {
    private static int wrong = 0;

    final PeerAudit object = new PeerAudit();
    private final String title;

    Script(String title) {
        this.title = title;
    }

    /** Ends the program: with exit code 1 if an answer was not as due. */
    static void end() {
        System.out.println(wrong == 0 ? "all answers are as due" : wrong + " answers are not as due");
        if (wrong != 0) {
            System.exit(1);
        }
    }

    Script calls(String text) {
        for (String piece : text.split(";")) {
            String call = piece.replaceAll("\\s+", " ").trim();
            if (!call.isEmpty()) {
                int sign = call.indexOf('=');
                due(call.substring(0, sign).trim(), call.substring(sign + 1).trim());
            }
        }
        return this;
    }

    /** A call that must throw, and change nothing by it. */
    Script throwing(String exception, String... calls) {
        for (String call : calls) {
            long before = object.digest();
            due(call, "throws " + exception);
            same(call + " changes nothing: digest", object.digest(), before);
        }
        return this;
    }

    void due(String call, String want) {
        String got = answer(call);
        if (!got.equals(want)) {
            report(call, got, want);
        }
    }

    void same(String what, long got, long want) {
        if (got != want) {
            report(what, Long.toString(got), Long.toString(want));
        }
    }

    private void report(String call, String got, String want) {
        wrong++;
        System.out.println(title + ": " + call + " answered " + got + ", due is " + want);
    }

    /** The answer of a call, or "throws E". */
    String answer(String call) {
        int open = call.indexOf('(');
        String name = call.substring(0, open);
        String inside = call.substring(open + 1, call.lastIndexOf(')')).trim();
        String[] parts = inside.isEmpty() ? new String[0] : inside.split(",");
        for (Method method : PeerAudit.class.getDeclaredMethods()) {
            if (method.getName().equals(name) && method.getParameterCount() == parts.length) {
                return invoke(method, parts);
            }
        }
        return "no such method";
    }

    private String invoke(Method method, String[] parts) {
        Object[] arguments = new Object[parts.length];
        for (int i = 0; i < parts.length; i++) {
            String part = parts[i].trim();
            if (method.getParameterTypes()[i] == boolean.class) {
                arguments[i] = Boolean.valueOf(part);
            } else {
                arguments[i] = Integer.valueOf(part);
            }
        }
        try {
            return String.valueOf(method.invoke(object, arguments));
        } catch (InvocationTargetException e) {
            return "throws " + e.getCause().getClass().getSimpleName();
        } catch (IllegalAccessException e) {
            return "not public";
        }
    }
}
