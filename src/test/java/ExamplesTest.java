/** The four examples of the document's "Description", word by word. */
public final class ExamplesTest {
    public static void main(String[] args) {
        new Script("example 1").calls(
            "input(0, 1) = 18; state(0) = 18; entry(0, 0) = 1; chain(0, 1) = 1000260;"
            + "logLength(0) = 2; queued() = 1; auditAll() = 0; verdictMask(0) = 7");
        new Script("example 2").calls(
            "input(0, 7) = 120; tamper(0, 0, 8) = 7; audit(1, 0) = 2; input(1, 2) = 66; lie(1) = false;"
            + "input(1, 5) = 2132; input(1, 6) = 6357; audit(0, 1) = 2");
        new Script("example 3").calls(
            "setSilent(1, true) = 0; audit(0, 1) = 1; verdictMask(1) = 2; setSilent(1, false) = 0;"
            + "audit(0, 1) = 0; verdict(1, 1) = 0");
        new Script("example 4").calls(
            "audit(0, 0) = throws IllegalStateException; input(3, 1) = throws IndexOutOfBoundsException;"
            + "input(0, 1000) = throws IllegalArgumentException; cut(0, 1) = throws IllegalArgumentException;"
            + "deliver() = -1; evidence(0, 0) = throws IndexOutOfBoundsException;"
            + "undo() = throws IllegalStateException");
        Script.end();
    }
}
