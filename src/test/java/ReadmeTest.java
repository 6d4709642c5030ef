import java.io.IOException;
import java.lang.reflect.Field;
import java.lang.reflect.Method;
import java.lang.reflect.Modifier;
import java.nio.file.Files;
import java.nio.file.Path;
import java.util.Set;
import java.util.TreeSet;
import java.util.regex.Matcher;
import java.util.regex.Pattern;

/**
 * The calls of README.md answer what stands behind them, and every method of the face is among them. The test is run
 * where README.md is.
 */
public final class ReadmeTest {
    private static final Pattern LINE = Pattern.compile("x\\.(\\w+)(\\(.*\\)); +// (= -?\\w+|throws \\w+).*");

    public static void main(String[] args) throws IOException {
        Set<String> missing = new TreeSet<>();
        for (Method method : PeerAudit.class.getDeclaredMethods()) {
            if (Modifier.isPublic(method.getModifiers())) {
                missing.add(method.getName());
            }
        }
        Script s = new Script("README.md");
        boolean isCode = false;
        for (String line : Files.readAllLines(Path.of("README.md"))) {
            if (line.startsWith("```")) {
                isCode = line.equals("```java");
            } else if (isCode && line.equals("PeerAudit x = new PeerAudit();")) {
                s = new Script("README.md");
            } else if (isCode) {
                Matcher parts = LINE.matcher(line);
                s.same("is a call with its answer: " + line, parts.matches() ? 1 : 0, 1);
                if (parts.matches()) {
                    s.due(withNumbers(parts.group(1) + parts.group(2)), parts.group(3).replace("= ", ""));
                    missing.remove(parts.group(1));
                }
            }
        }
        s.same("methods without a call", missing.toString(), "[]");
        Script.end();
    }

    /** The constants of the face become their numbers. */
    private static String withNumbers(String call) {
        String text = call;
        for (Field field : PeerAudit.class.getFields()) {
            try {
                text = text.replace("PeerAudit." + field.getName(), String.valueOf(field.get(null)));
            } catch (IllegalAccessException e) {
                throw new IllegalStateException(e);
            }
        }
        return text;
    }
}
