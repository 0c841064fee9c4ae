import java.lang.reflect.Constructor;
import java.lang.reflect.Field;
import java.lang.reflect.Method;
import java.lang.reflect.Modifier;
import java.util.Set;
import java.util.TreeSet;

/** The public face of the document: every member with what it throws, and no other that is not private. */
public final class FaceTest {
    private static final String[] FACE = {
        "public PackedBits()",
        "public int PackedBits.put(long,int) throws IllegalArgumentException,IndexOutOfBoundsException",
        "public int PackedBits.putRange(long,long,long) throws IllegalArgumentException,IndexOutOfBoundsException",
        "public int PackedBits.putLength(int) throws IllegalArgumentException,IndexOutOfBoundsException",
        "public int PackedBits.putNumber(int,long) throws IllegalArgumentException,IndexOutOfBoundsException",
        "public int PackedBits.fill() throws IndexOutOfBoundsException",
        "public long PackedBits.take(int) throws IllegalArgumentException,UnsupportedOperationException",
        "public long PackedBits.takeRange(long,long) throws IllegalArgumentException,UnsupportedOperationException",
        "public int PackedBits.takeLength() throws UnsupportedOperationException",
        "public long PackedBits.takeNumber(int) throws IllegalArgumentException,UnsupportedOperationException",
        "public int PackedBits.go(int) throws IllegalArgumentException",
        "public boolean PackedBits.turn(int) throws IllegalArgumentException",
        "public int PackedBits.cut(int) throws IllegalArgumentException",
        "public int PackedBits.count(int) throws IllegalArgumentException",
    };

    public static void main(String[] args) {
        Check.due("the class", Modifier.toString(PackedBits.class.getModifiers()), "public final");
        Check.due("the face", seen(), new TreeSet<>(Set.of(FACE)));
        privateNames();
        staticFields();
        Check.end();
    }

    private static Set<String> seen() {
        Set<String> seen = new TreeSet<>();
        for (Constructor<?> c : PackedBits.class.getDeclaredConstructors()) {
            seen.add(c.toString());
        }
        for (Method m : PackedBits.class.getDeclaredMethods()) {
            if (!Modifier.isPrivate(m.getModifiers())) {
                seen.add(m.toString().replace("java.lang.", ""));
            }
        }
        for (Field f : PackedBits.class.getDeclaredFields()) {
            if (!Modifier.isPrivate(f.getModifiers())) {
                seen.add(f.toString());
            }
        }
        return seen;
    }

    private static void privateNames() {
        Set<String> names = new TreeSet<>();
        for (Method m : PackedBits.class.getDeclaredMethods()) {
            if (Modifier.isPublic(m.getModifiers())) {
                names.add(m.getName());
            }
        }
        for (Method m : PackedBits.class.getDeclaredMethods()) {
            boolean both = Modifier.isPrivate(m.getModifiers()) && names.contains(m.getName());
            Check.due(m.getName() + " is private and bears a public name", both, false);
        }
    }

    private static void staticFields() {
        for (Field f : PackedBits.class.getDeclaredFields()) {
            boolean changes = Modifier.isStatic(f.getModifiers()) && !Modifier.isFinal(f.getModifiers());
            Check.due(f.getName() + " is static and not final", changes, false);
        }
    }
}
