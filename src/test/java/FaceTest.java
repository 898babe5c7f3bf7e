import java.lang.reflect.Constructor;
import java.lang.reflect.Field;
import java.lang.reflect.Method;
import java.lang.reflect.Modifier;
import java.util.Set;
import java.util.TreeSet;

/** "The public face": what the document shows, and nothing else that another class could see. */
public final class FaceTest {
    private static final Set<String> DUE = Set.of(
        "public static final int CircuitText.NONE",
        "public CircuitText()",
        "public int CircuitText.feed(int,int,int,int,int) throws java.lang.UnsupportedOperationException",
        "public void CircuitText.end(int) throws java.lang.IllegalArgumentException",
        "public int CircuitText.read()",
        "public int CircuitText.fault()",
        "public int CircuitText.count()",
        "public int CircuitText.module(int,int) throws java.lang.IndexOutOfBoundsException,java.lang.IllegalArgumentException",
        "public int CircuitText.declared(int,int,int) throws java.lang.IndexOutOfBoundsException,java.lang.IllegalArgumentException",
        "public long CircuitText.beginning(int,int) throws java.lang.IndexOutOfBoundsException",
        "public int CircuitText.find(int) throws java.lang.IndexOutOfBoundsException");

    public static void main(String[] args) {
        Bench.due("the class is public and final", CircuitText.class.getModifiers(), Modifier.PUBLIC | Modifier.FINAL);
        Bench.due("NONE", CircuitText.NONE, -1);
        Set<String> seen = seen();
        for (String due : DUE) {
            Bench.due("has " + due, seen.contains(due) ? 1 : 0, 1);
        }
        for (String member : seen) {
            Bench.due("may have " + member, DUE.contains(member) ? 1 : 0, 1);
        }
        Bench.done("FaceTest");
    }

    private static Set<String> seen() {
        Set<String> seen = new TreeSet<>();
        for (Field field : CircuitText.class.getDeclaredFields()) {
            note(seen, field.toString(), field.getModifiers(), field.isSynthetic());
        }
        for (Constructor<?> constructor : CircuitText.class.getDeclaredConstructors()) {
            note(seen, constructor.toString(), constructor.getModifiers(), constructor.isSynthetic());
        }
        for (Method method : CircuitText.class.getDeclaredMethods()) {
            note(seen, method.toString(), method.getModifiers(), method.isSynthetic());
        }
        return seen;
    }

    private static void note(Set<String> seen, String member, int modifiers, boolean byCompiler) {
        if (!Modifier.isPrivate(modifiers) && !byCompiler) {
            seen.add(member);
        }
    }
}
