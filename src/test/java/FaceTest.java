import java.lang.reflect.Constructor;
import java.lang.reflect.Field;
import java.lang.reflect.Method;
import java.lang.reflect.Modifier;
import java.util.Arrays;
import java.util.Set;
import java.util.TreeSet;

/** The public face of the document and no more (LANGUAGE.md, rule 1), and the constant NONE. */
public final class FaceTest {
    private static final String[] FACE = {
        "public static final int ChangeCodec.NONE",
        "public ChangeCodec()",
        "public void ChangeCodec.begin(int,int,int) throws java.lang.IllegalArgumentException",
        "public boolean ChangeCodec.hangs(int,int)",
        "public int ChangeCodec.add(int,int,long,int,int)"
                + " throws java.lang.IllegalStateException,java.lang.IllegalArgumentException",
        "public boolean ChangeCodec.undo()",
        "public int ChangeCodec.size() throws java.lang.IllegalStateException",
        "public int ChangeCodec.write()"
                + " throws java.lang.IllegalStateException,java.lang.UnsupportedOperationException",
        "public void ChangeCodec.clear()",
        "public boolean ChangeCodec.give(long,int)",
        "public boolean ChangeCodec.cut(int)",
        "public void ChangeCodec.turn()",
        "public int ChangeCodec.read()",
        "public int ChangeCodec.of(int)",
        "public int ChangeCodec.operation(int,int) throws java.lang.IndexOutOfBoundsException",
        "public long ChangeCodec.key(int) throws java.lang.IndexOutOfBoundsException",
        "public int ChangeCodec.output(int)",
        "public int ChangeCodec.look(int)",
    };

    public static void main(String[] args) {
        Set<String> seen = new TreeSet<>();
        Set<String> publicNames = new TreeSet<>();
        for (Field f : ChangeCodec.class.getDeclaredFields()) {
            if (!Modifier.isPrivate(f.getModifiers())) {
                seen.add(f.toGenericString());
            }
            if (Modifier.isStatic(f.getModifiers())) {
                Expect.due(f.getName() + " is final", Modifier.isFinal(f.getModifiers()), true);
            }
        }
        for (Constructor<?> c : ChangeCodec.class.getDeclaredConstructors()) {
            if (!Modifier.isPrivate(c.getModifiers())) {
                seen.add(c.toGenericString());
            }
        }
        for (Method m : ChangeCodec.class.getDeclaredMethods()) {
            if (!Modifier.isPrivate(m.getModifiers())) {
                seen.add(m.toGenericString());
                publicNames.add(m.getName());
            }
        }
        Expect.due("the face", seen.toString(), new TreeSet<>(Arrays.asList(FACE)).toString());
        for (Method m : ChangeCodec.class.getDeclaredMethods()) {
            if (Modifier.isPrivate(m.getModifiers())) {
                Expect.due("a public method is named as " + m.getName(), publicNames.contains(m.getName()), false);
            }
        }
        for (Class<?> inside : ChangeCodec.class.getDeclaredClasses()) {
            int how = inside.getModifiers();
            Expect.due(inside + " is static", Modifier.isStatic(how), true);
            Expect.due(inside + " is not public", Modifier.isPublic(how) || Modifier.isProtected(how), false);
        }
        Expect.due("the class is public and final", ChangeCodec.class.getModifiers(),
                Modifier.PUBLIC | Modifier.FINAL);
        Expect.due("NONE", ChangeCodec.NONE, -1);
        Expect.end();
    }
}
