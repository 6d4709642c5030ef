import java.lang.reflect.InvocationTargetException;
import java.lang.reflect.Method;
import java.util.HashMap;
import java.util.Map;

/** A call of a method of the face with its arguments; it is not bound to an object. */
record Call(Method method, Object... arguments) {
    private static final Map<String, Method> FACE = face();

    private static Map<String, Method> face() {
        Map<String, Method> found = new HashMap<>();
        for (Method method : PeerAudit.class.getMethods()) {
            if (method.getDeclaringClass() == PeerAudit.class) {
                found.put(method.getName(), method);
            }
        }
        return found;
    }

    static Call of(String name, Object... arguments) {
        Method method = FACE.get(name);
        if (method == null || method.getParameterCount() != arguments.length) {
            throw new IllegalStateException("the face has no such method: " + name);
        }
        return new Call(method, arguments);
    }

    /** A call as the document writes it: "input(0, 1)". */
    static Call written(String text) {
        int open = text.indexOf('(');
        String inside = text.substring(open + 1, text.lastIndexOf(')')).trim();
        String[] parts = inside.isEmpty() ? new String[0] : inside.split(",");
        Object[] arguments = new Object[parts.length];
        for (int i = 0; i < parts.length; i++) {
            arguments[i] = argument(parts[i].trim());
        }
        return of(text.substring(0, open).trim(), arguments);
    }

    private static Object argument(String text) {
        if (text.equals("true") || text.equals("false")) {
            return Boolean.valueOf(text);
        }
        return Integer.valueOf(text);
    }

    /** What the call answers, or "throws E". */
    String answer(PeerAudit object) {
        try {
            return String.valueOf(method.invoke(object, arguments));
        } catch (InvocationTargetException e) {
            return "throws " + e.getCause().getClass().getSimpleName();
        } catch (IllegalAccessException e) {
            return "not public";
        }
    }
}
