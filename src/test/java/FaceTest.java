import java.lang.reflect.Constructor;
import java.lang.reflect.Field;
import java.lang.reflect.Method;
import java.lang.reflect.Modifier;
import java.util.Arrays;
import java.util.HashSet;
import java.util.Set;
import java.util.TreeSet;

/** The public face: what the document lists, and nothing else that is seen from outside. */
public final class FaceTest {
    public static void main(String[] args) {
        Due due = new Due("FaceTest");
        Class<?> face = ContextMix.class;
        due.holds("public and final", Modifier.isPublic(face.getModifiers()) && Modifier.isFinal(face.getModifiers()));
        methods(due, face);
        constants(due, face);
        due.is("constructors", face.getDeclaredConstructors().length, 1);
        for (Constructor<?> c : face.getDeclaredConstructors()) {
            due.holds("the constructor", Modifier.isPublic(c.getModifiers())
                && Arrays.equals(c.getParameterTypes(), new Class<?>[] {int.class}));
        }
        for (Class<?> inside : face.getDeclaredClasses()) {
            due.holds(inside + " is static", Modifier.isStatic(inside.getModifiers()));
            due.holds(inside + " is not public", !Modifier.isPublic(inside.getModifiers()));
        }
        due.end();
    }

    private static void methods(Due due, Class<?> face) {
        Set<String> want = new TreeSet<>(Arrays.asList("predictor(int,int)", "off(int)", "bit(boolean)", "octet(int)",
            "end()", "get()", "again()", "clear()", "out(int)", "spoil(int,int)", "chance(int)", "input(int,int)",
            "weight(int,int,int,int)", "slot(int,int) throws ArrayIndexOutOfBoundsException", "seen(int,int)",
            "cell(int,int,int)", "squash(int)", "stretch(int)", "equal()", "count(int)"));
        Set<String> got = new TreeSet<>();
        Set<String> names = new HashSet<>();
        Set<String> hidden = new HashSet<>();
        for (Method m : face.getDeclaredMethods()) {
            if (Modifier.isPrivate(m.getModifiers())) {
                hidden.add(m.getName());
                continue;
            }
            due.holds(m + " is public, answers int, is not static", Modifier.isPublic(m.getModifiers())
                && m.getReturnType() == int.class && !Modifier.isStatic(m.getModifiers()));
            names.add(m.getName());
            got.add(told(m));
        }
        due.holds("methods are " + got, got.equals(want));
        for (Class<?> inside : face.getDeclaredClasses()) {
            for (Method m : inside.getDeclaredMethods()) {
                hidden.add(m.getName());
            }
        }
        hidden.retainAll(names);
        due.holds("names that inner methods share with the face: " + hidden, hidden.isEmpty());
    }

    private static String told(Method m) {
        StringBuilder text = new StringBuilder(m.getName()).append("(");
        for (int i = 0; i < m.getParameterCount(); i++) {
            text.append(i == 0 ? "" : ",").append(m.getParameterTypes()[i].getSimpleName());
        }
        text.append(")");
        for (Class<?> thrown : m.getExceptionTypes()) {
            text.append(" throws ").append(thrown.getSimpleName());
        }
        return text.toString();
    }

    private static void constants(Due due, Class<?> face) {
        due.is("BAD", ContextMix.BAD, -1);
        due.is("NONE", ContextMix.NONE, -2);
        due.is("FULL", ContextMix.FULL, -3);
        due.is("STATE", ContextMix.STATE, -4);
        Set<String> seen = new HashSet<>();
        for (Field f : face.getDeclaredFields()) {
            if (!Modifier.isPrivate(f.getModifiers())) {
                seen.add(f.getName());
                due.holds(f + " is public static final", (f.getModifiers() & (Modifier.PUBLIC | Modifier.STATIC
                    | Modifier.FINAL)) == (Modifier.PUBLIC | Modifier.STATIC | Modifier.FINAL));
            }
            if (Modifier.isStatic(f.getModifiers())) {
                due.holds(f + " is final", Modifier.isFinal(f.getModifiers()));
            }
        }
        due.holds("constants are " + seen, seen.equals(new HashSet<>(Arrays.asList("BAD", "NONE", "FULL", "STATE"))));
    }
}
