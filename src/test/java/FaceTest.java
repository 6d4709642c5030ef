import java.lang.reflect.Constructor;
import java.lang.reflect.Field;
import java.lang.reflect.Method;
import java.lang.reflect.Modifier;
import java.util.Arrays;
import java.util.Set;
import java.util.TreeSet;

/** The class has the document's face and no other member that can be seen from outside (LANGUAGE.md, rules 1 and 5). */
public final class FaceTest {
    private static final String[] METHODS = {
        "int reset(int) throws IllegalArgumentException",
        "int input(int, int) throws IndexOutOfBoundsException, IllegalArgumentException, IllegalStateException",
        "int deliver() throws IllegalStateException",
        "int run(int) throws IllegalArgumentException",
        "int queued()",
        "int state(int) throws IndexOutOfBoundsException",
        "int setSilent(int, boolean) throws IndexOutOfBoundsException",
        "int pending(int) throws IndexOutOfBoundsException",
        "int resend(int) throws IndexOutOfBoundsException, IllegalStateException",
        "boolean lie(int) throws IndexOutOfBoundsException",
        "int tamper(int, int, int) throws IndexOutOfBoundsException, IllegalArgumentException",
        "int cut(int, int) throws IndexOutOfBoundsException, IllegalArgumentException",
        "int logLength(int) throws IndexOutOfBoundsException",
        "int entry(int, int) throws IndexOutOfBoundsException",
        "int chain(int, int) throws IndexOutOfBoundsException",
        "int held(int) throws IndexOutOfBoundsException",
        "int authenticator(int, int, int) throws IndexOutOfBoundsException, IllegalArgumentException",
        "int setWitnesses(int, int) throws IndexOutOfBoundsException, IllegalArgumentException",
        "int audit(int, int) throws IndexOutOfBoundsException, IllegalStateException",
        "int auditAll()",
        "int verdict(int, int) throws IndexOutOfBoundsException",
        "int verdictMask(int) throws IllegalArgumentException",
        "int evidenceCount()",
        "int evidence(int, int) throws IndexOutOfBoundsException, IllegalArgumentException",
        "int undo() throws IllegalStateException",
        "long digest()",
    };
    private static final String[] CONSTANTS = {
        "NONE=-1", "INPUT=0", "RECEIVE=1", "SEND=2", "TRUSTED=0", "SUSPECTED=1", "EXPOSED=2", "MISMATCH=0", "REPLAY=1",
    };

    private static int wrong = 0;

    public static void main(String[] args) throws IllegalAccessException {
        expect("the class is public and final", true,
            PeerAudit.class.getModifiers() == (Modifier.PUBLIC | Modifier.FINAL));
        Set<String> names = publicMethods();
        publicConstants();
        constructors();
        for (Class<?> inside : PeerAudit.class.getDeclaredClasses()) {
            expect(inside + " is static", true, Modifier.isStatic(inside.getModifiers()));
            expect(inside + " is not public or protected", false, isWide(inside.getModifiers()));
            insideMembers(inside, names);
        }
        System.out.println(wrong == 0 ? "the face is as due" : wrong + " faults of the face");
        if (wrong != 0) {
            System.exit(1);
        }
    }

    private static Set<String> publicMethods() {
        Set<String> found = new TreeSet<>();
        Set<String> names = new TreeSet<>();
        for (Method method : PeerAudit.class.getDeclaredMethods()) {
            if (!Modifier.isPrivate(method.getModifiers())) {
                found.add(signature(method));
                names.add(method.getName());
                expect(method + " is public and no more", Modifier.PUBLIC, method.getModifiers());
            }
        }
        expect("the methods", new TreeSet<>(Arrays.asList(METHODS)), found);
        for (Method method : PeerAudit.class.getDeclaredMethods()) {
            if (Modifier.isPrivate(method.getModifiers())) {
                expect(method + " bears the name of a public one", false, names.contains(method.getName()));
            }
        }
        return names;
    }

    private static void insideMembers(Class<?> inside, Set<String> names) {
        for (Method method : inside.getDeclaredMethods()) {
            expect(method + " bears the name of a public one", false, names.contains(method.getName()));
        }
        for (Field field : inside.getDeclaredFields()) {
            expect(field + " is no static state", false, Modifier.isStatic(field.getModifiers()));
        }
    }

    private static void publicConstants() throws IllegalAccessException {
        Set<String> found = new TreeSet<>();
        for (Field field : PeerAudit.class.getDeclaredFields()) {
            int modifiers = field.getModifiers();
            if (!Modifier.isPrivate(modifiers)) {
                found.add(field.getName() + "=" + field.getInt(null));
                expect(field + " is a public constant", Modifier.PUBLIC | Modifier.STATIC | Modifier.FINAL, modifiers);
            }
            expect(field + " is final if it is static", true, !Modifier.isStatic(modifiers) || Modifier.isFinal(modifiers));
        }
        expect("the constants", new TreeSet<>(Arrays.asList(CONSTANTS)), found);
    }

    private static void constructors() {
        Constructor<?>[] all = PeerAudit.class.getDeclaredConstructors();
        expect("constructors", 1, all.length);
        expect("the constructor is public", Modifier.PUBLIC, all[0].getModifiers());
        expect("the constructor's parameters", 0, all[0].getParameterCount());
    }

    private static String signature(Method method) {
        StringBuilder text = new StringBuilder();
        text.append(method.getReturnType().getSimpleName()).append(' ').append(method.getName());
        text.append('(').append(joined(method.getParameterTypes())).append(')');
        if (method.getExceptionTypes().length > 0) {
            text.append(" throws ").append(joined(method.getExceptionTypes()));
        }
        return text.toString();
    }

    private static String joined(Class<?>[] types) {
        StringBuilder text = new StringBuilder();
        for (Class<?> type : types) {
            text.append(text.length() == 0 ? "" : ", ").append(type.getSimpleName());
        }
        return text.toString();
    }

    private static boolean isWide(int modifiers) {
        return Modifier.isPublic(modifiers) || Modifier.isProtected(modifiers);
    }

    private static void expect(String what, Object want, Object got) {
        if (!want.equals(got)) {
            wrong++;
            System.out.println(what + ": " + got + ", due is " + want);
        }
    }
}
