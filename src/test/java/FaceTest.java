import java.lang.reflect.Constructor;
import java.lang.reflect.Executable;
import java.lang.reflect.Field;
import java.lang.reflect.Method;
import java.lang.reflect.Modifier;
import java.util.Set;
import java.util.StringJoiner;
import java.util.TreeSet;

/** The public face of the document, line by line, and that no other member can be seen. */
public final class FaceTest {
    private static final Set<String> MEMBERS = members();
    private static final Set<String> TOLD = new TreeSet<>();

    public static void main(String[] args) {
        privateNames();
        staticFields();
        theFace();
        Check.end();
    }

    private static void theFace() {
        declared(Check.holds("The public face", "public PackedBits();"));
        declared(Check.holds("The public face",
                "public int put(long x, int n) throws IllegalArgumentException, IndexOutOfBoundsException;"));
        declared(Check.holds("The public face", "public int putRange(long low, long high, long n) "
                + "throws IllegalArgumentException, IndexOutOfBoundsException;"));
        declared(Check.holds("The public face",
                "public int putLength(int n) throws IllegalArgumentException, IndexOutOfBoundsException;"));
        declared(Check.holds("The public face",
                "public int putNumber(int kind, long n) throws IllegalArgumentException, IndexOutOfBoundsException;"));
        declared(Check.holds("The public face", "public int fill() throws IndexOutOfBoundsException;"));
        declared(Check.holds("The public face",
                "public long take(int n) throws IllegalArgumentException, UnsupportedOperationException;"));
        declared(Check.holds("The public face", "public long takeRange(long low, long high) "
                + "throws IllegalArgumentException, UnsupportedOperationException;"));
        declared(Check.holds("The public face", "public int takeLength() throws UnsupportedOperationException;"));
        declared(Check.holds("The public face",
                "public long takeNumber(int kind) throws IllegalArgumentException, UnsupportedOperationException;"));
        declared(Check.holds("The public face", "public int go(int p) throws IllegalArgumentException;"));
        declared(Check.holds("The public face", "public boolean turn(int i) throws IllegalArgumentException;"));
        declared(Check.holds("The public face", "public int cut(int n) throws IllegalArgumentException;"));
        declared(Check.holds("The public face", "public int count(int what) throws IllegalArgumentException;"));
        String start = Check.holds("The public face", "public final class PackedBits {");
        Check.due("the class", theClass(), start);
        Set<String> others = new TreeSet<>(MEMBERS);
        others.removeAll(TOLD);
        Check.due("the members that no line has", others, Set.of());
    }

    private static void declared(String line) {
        // The names of the parameters cannot be seen, and so are left out.
        String plain = line.replaceAll("(int|long) \\w+([,)])", "$1$2");
        TOLD.add(plain);
        Check.due("it is declared", MEMBERS.contains(plain), true);
    }

    private static String theClass() {
        String modifiers = Modifier.toString(PackedBits.class.getModifiers());
        boolean plain = PackedBits.class.getSuperclass() == Object.class && PackedBits.class.getInterfaces().length == 0;
        return modifiers + " class " + PackedBits.class.getName() + (plain ? " {" : " of another kind");
    }

    private static Set<String> members() {
        Set<String> seen = new TreeSet<>();
        for (Constructor<?> c : PackedBits.class.getDeclaredConstructors()) {
            seen.add(line(c, c.getName()));
        }
        for (Method m : PackedBits.class.getDeclaredMethods()) {
            if (!Modifier.isPrivate(m.getModifiers())) {
                seen.add(line(m, m.getReturnType().getSimpleName() + " " + m.getName()));
            }
        }
        for (Field f : PackedBits.class.getDeclaredFields()) {
            if (!Modifier.isPrivate(f.getModifiers())) {
                seen.add(f.toString());
            }
        }
        return seen;
    }

    private static String line(Executable member, String name) {
        String start = Modifier.toString(member.getModifiers()) + " " + name + "(";
        StringJoiner parameters = new StringJoiner(", ", start, ")");
        for (Class<?> type : member.getParameterTypes()) {
            parameters.add(type.getSimpleName());
        }
        StringJoiner thrown = new StringJoiner(", ", " throws ", "").setEmptyValue("");
        for (Class<?> type : member.getExceptionTypes()) {
            thrown.add(type.getSimpleName());
        }
        return parameters.toString() + thrown + ";";
    }

    private static void privateNames() {
        Set<String> names = new TreeSet<>();
        for (Method m : PackedBits.class.getDeclaredMethods()) {
            if (Modifier.isPublic(m.getModifiers())) {
                names.add(m.getName());
            }
        }
        for (Method m : PackedBits.class.getDeclaredMethods()) {
            boolean both = Modifier.isPrivate(m.getModifiers()) && names.contains(m.getName());
            Check.due("LANGUAGE.md, rule 1: " + m.getName() + " is private and bears a public name", both, false);
        }
    }

    private static void staticFields() {
        for (Field f : PackedBits.class.getDeclaredFields()) {
            boolean changes = Modifier.isStatic(f.getModifiers()) && !Modifier.isFinal(f.getModifiers());
            Check.due("LANGUAGE.md, rule 5: " + f.getName() + " is static and not final", changes, false);
        }
    }
}
