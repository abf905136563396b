import java.lang.reflect.Constructor;
import java.lang.reflect.Field;
import java.lang.reflect.Method;
import java.lang.reflect.Modifier;
import java.util.Arrays;
import java.util.Set;
import java.util.TreeSet;

/** The face is the document's, and no member beside it can be seen from outside. */
public final class FaceTest {
    private static final String[] FACE = {
        "public ZMemory()",
        "public static final int ZMemory.NONE",
        "public static final int ZMemory.BAD",
        "public static final int ZMemory.FULL",
        "public int ZMemory.size(int,int)",
        "public int ZMemory.get(int,boolean)",
        "public int ZMemory.put(int,int,boolean,boolean)",
        "public int ZMemory.work(int,int,int) throws java.lang.IllegalArgumentException,java.lang.ArithmeticException",
        "public int ZMemory.copy(int,int,int)",
        "public int ZMemory.look(int,int,int,int)",
        "public int ZMemory.random(int)",
        "public int ZMemory.tape(int)",
        "public int ZMemory.globe(int)",
        "public int ZMemory.form(int)",
        "public int ZMemory.instruction(int,int,int,int,int)",
        "public int ZMemory.routine(int,int,int,boolean)",
        "public int ZMemory.clear()",
        "public int ZMemory.run(int,int,int)",
        "public int ZMemory.told(int)",
        "public int ZMemory.printed(int) throws java.lang.IndexOutOfBoundsException",
        "public int ZMemory.left(int)",
    };

    private static Set<String> visible() {
        Set<String> found = new TreeSet<>();
        for (Constructor<?> c : ZMemory.class.getDeclaredConstructors()) {
            if (!Modifier.isPrivate(c.getModifiers())) {
                found.add(c.toString());
            }
        }
        for (Field f : ZMemory.class.getDeclaredFields()) {
            if (!Modifier.isPrivate(f.getModifiers())) {
                found.add(f.toString());
            }
        }
        for (Method m : ZMemory.class.getDeclaredMethods()) {
            if (!Modifier.isPrivate(m.getModifiers())) {
                found.add(m.toString());
            }
        }
        return found;
    }

    public static void main(String[] args) {
        Due due = new Due();
        Set<String> want = new TreeSet<>(Arrays.asList(FACE));
        Set<String> got = visible();
        for (String member : want) {
            due.is("has " + member, got.contains(member) ? 1 : 0, 1);
        }
        for (String member : got) {
            due.is("has beside the face " + member, want.contains(member) ? 0 : 1, 0);
        }
        int modifiers = ZMemory.class.getModifiers();
        due.is("public and final", Modifier.isPublic(modifiers) && Modifier.isFinal(modifiers) ? 1 : 0, 1);
        due.is("NONE", ZMemory.NONE, -1);
        due.is("BAD", ZMemory.BAD, -2);
        due.is("FULL", ZMemory.FULL, -3);
        due.end();
    }
}
