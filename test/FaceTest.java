import java.lang.reflect.Constructor;
import java.lang.reflect.Field;
import java.lang.reflect.Method;
import java.lang.reflect.Modifier;
import java.util.Set;
import java.util.TreeSet;

/** The face of the class is the one of the document, and nothing else of it can be seen. */
public final class FaceTest {
    public static void main(String[] args) {
        Set<String> due = new TreeSet<>(Set.of(
                "int feed(int,int,int,int,int) IllegalStateException",
                "int trim(int) IllegalArgumentException",
                "int teach()",
                "int errorAt()",
                "int count(int) IndexOutOfBoundsException",
                "int cell(int,int) IndexOutOfBoundsException",
                "int at(int,int) IndexOutOfBoundsException",
                "int name(int) IndexOutOfBoundsException"));
        due.addAll(Set.of(
                "int far(int,int,int) IllegalArgumentException IndexOutOfBoundsException",
                "boolean legal(int,int) IndexOutOfBoundsException",
                "int nth(int) IndexOutOfBoundsException",
                "int move(int,int,int) IndexOutOfBoundsException IllegalArgumentException IllegalStateException",
                "int back() IllegalStateException",
                "int lines(int) IllegalArgumentException"));
        due.addAll(Set.of(
                "int mate()",
                "int greed()",
                "int hanging(int) IndexOutOfBoundsException",
                "double mean()",
                "long digest()"));
        Set<String> privates = new TreeSet<>();
        Set<String> publics = new TreeSet<>();
        for (Method m : HexCabinet.class.getDeclaredMethods()) {
            if (m.isSynthetic()) {
                continue;
            }
            if (Modifier.isPrivate(m.getModifiers())) {
                privates.add(m.getName());
            } else if (!due.remove(told(m))) {
                Check.fail("not in the document: " + told(m));
            } else {
                publics.add(m.getName());
            }
        }
        for (String missing : due) {
            Check.fail("missing: " + missing);
        }
        for (Class<?> inside : HexCabinet.class.getDeclaredClasses()) {
            for (Method m : inside.getDeclaredMethods()) {
                if (Modifier.isPrivate(m.getModifiers())) {
                    privates.add(m.getName());
                }
            }
            int seen = inside.getModifiers();
            Check.dueTrue(inside + " static", Modifier.isStatic(seen));
            Check.dueFalse(inside + " public or protected", Modifier.isPublic(seen) || Modifier.isProtected(seen));
        }
        for (String name : privates) {
            Check.dueFalse("a private method with the public name " + name, publics.contains(name));
        }
        for (Field f : HexCabinet.class.getDeclaredFields()) {
            Check.dueTrue(f.getName() + " private", f.isSynthetic() || Modifier.isPrivate(f.getModifiers()));
        }
        for (Constructor<?> c : HexCabinet.class.getDeclaredConstructors()) {
            Check.dueTrue("constructor public", Modifier.isPublic(c.getModifiers()));
            Check.due("parameters of the constructor", c.getParameterCount(), 0);
        }
        Check.dueTrue("public", Modifier.isPublic(HexCabinet.class.getModifiers()));
        Check.dueTrue("final", Modifier.isFinal(HexCabinet.class.getModifiers()));
        Check.end();
    }

    private static String told(Method m) {
        StringBuilder b = new StringBuilder(m.getReturnType().getName()).append(' ').append(m.getName()).append('(');
        for (int i = 0; i < m.getParameterCount(); i++) {
            b.append(i == 0 ? "" : ",").append(m.getParameterTypes()[i].getName());
        }
        b.append(')');
        for (Class<?> thrown : m.getExceptionTypes()) {
            b.append(' ').append(thrown.getSimpleName());
        }
        return b.toString();
    }
}
