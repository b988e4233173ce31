import java.lang.reflect.Constructor;
import java.lang.reflect.Field;
import java.lang.reflect.Method;
import java.lang.reflect.Modifier;
import java.util.Arrays;
import java.util.Set;
import java.util.TreeSet;

/** The public face: just what the document lists, and nothing else that is not private. */
public final class FaceTest {
    private static final String[] FACE = {
        "int addClass(int) IndexOutOfBoundsException IllegalStateException",
        "boolean setLive(int,boolean) IndexOutOfBoundsException",
        "int classCount()",
        "int parent(int) IndexOutOfBoundsException",
        "boolean isBelow(int,int) IndexOutOfBoundsException",
        "int liveBelow(int) IndexOutOfBoundsException",
        "int addMethod(int,int,int) IndexOutOfBoundsException IllegalArgumentException IllegalStateException",
        "int addCall(int,int,int,int) IndexOutOfBoundsException IllegalArgumentException IllegalStateException",
        "int methodCount()",
        "int found(int,int) IndexOutOfBoundsException",
        "int targetCount(int,int) IndexOutOfBoundsException",
        "int target(int,int,int) IndexOutOfBoundsException NoSuchElementException",
        "int reached(int) IndexOutOfBoundsException",
        "boolean setLimits(int,int,int) IllegalArgumentException",
        "int plan(int) IndexOutOfBoundsException",
        "boolean hasPlan()",
        "int nodeCount() IllegalStateException",
        "int size() IllegalStateException",
        "int method(int) IllegalStateException IndexOutOfBoundsException",
        "int parentNode(int) IllegalStateException IndexOutOfBoundsException",
        "int siteOf(int) IllegalStateException IndexOutOfBoundsException",
        "int depth(int) IllegalStateException IndexOutOfBoundsException",
        "int siteCount(int) IllegalStateException IndexOutOfBoundsException",
        "int verdict(int,int) IllegalStateException IndexOutOfBoundsException",
        "int weight(int,int) IllegalStateException IndexOutOfBoundsException",
        "long weightOf(int) IllegalStateException IndexOutOfBoundsException",
        "double share() IllegalStateException",
        "boolean holds(int) IllegalStateException IndexOutOfBoundsException",
        "int firstBroken() IllegalStateException",
        "int prune() IllegalStateException",
        "long digest()",
    };

    public static void main(String[] args) {
        Class<?> face = InlinePlanner.class;
        Check.due("public and final", Modifier.PUBLIC | Modifier.FINAL, face.getModifiers());
        dueMethods(face);
        duePrivateFields(face);
        dueOneConstructor(face);
        dueStaticClasses(face);
        Check.end();
    }

    private static void dueMethods(Class<?> face) {
        Set<String> got = new TreeSet<>();
        Set<String> publicNames = new TreeSet<>();
        Set<String> privateNames = new TreeSet<>();
        for (Method m : face.getDeclaredMethods()) {
            if (Modifier.isPrivate(m.getModifiers())) {
                privateNames.add(m.getName());
            } else {
                got.add((m.getModifiers() == Modifier.PUBLIC ? "" : "not just public: ") + text(m));
                publicNames.add(m.getName());
            }
        }
        Set<String> want = new TreeSet<>(Arrays.asList(FACE));
        if (!got.equals(want)) {
            Check.report("the face is " + got + ", due is " + want);
        }
        privateNames.retainAll(publicNames);
        if (!privateNames.isEmpty()) {
            Check.report("private methods with names of public ones: " + privateNames);
        }
    }

    private static String text(Method m) {
        StringBuilder s = new StringBuilder(m.getReturnType().getName()).append(' ').append(m.getName()).append('(');
        Class<?>[] parameters = m.getParameterTypes();
        for (int k = 0; k < parameters.length; k++) {
            s.append(k == 0 ? "" : ",").append(parameters[k].getName());
        }
        s.append(')');
        for (Class<?> thrown : m.getExceptionTypes()) {
            s.append(' ').append(thrown.getSimpleName());
        }
        return s.toString();
    }

    private static void duePrivateFields(Class<?> face) {
        for (Field f : face.getDeclaredFields()) {
            Check.due(f.getName() + " is private", true, Modifier.isPrivate(f.getModifiers()));
        }
    }

    private static void dueOneConstructor(Class<?> face) {
        Constructor<?>[] all = face.getDeclaredConstructors();
        Check.due("constructors", 1, all.length);
        Check.due("the constructor's modifiers", Modifier.PUBLIC, all[0].getModifiers());
        Check.due("the constructor's parameters", 0, all[0].getParameterCount());
    }

    private static void dueStaticClasses(Class<?> face) {
        for (Class<?> inside : face.getDeclaredClasses()) {
            int modifiers = inside.getModifiers();
            Check.due(inside.getName() + " is static", true, Modifier.isStatic(modifiers));
            Check.due(inside.getName() + " is not for others", false,
                Modifier.isPublic(modifiers) || Modifier.isProtected(modifiers));
        }
    }
}
