import java.lang.reflect.Constructor;
import java.lang.reflect.Field;
import java.lang.reflect.InvocationTargetException;
import java.lang.reflect.Method;
import java.lang.reflect.Modifier;
import java.util.Arrays;
import java.util.Set;
import java.util.TreeSet;

/** The public face is the document's and no more, and no argument makes a call of it throw. */
public final class FaceTest {
    private static final int[] EDGES = {
        Integer.MIN_VALUE, -10000, -100, -5, -2, -1, 0, 1, 2, 3, 4, 5, 9, 10, 11, 19, 20, 29, 30, 31,
        49, 50, 59, 60, 61, 99, 100, 101, 9998, 9999, 10000, Integer.MAX_VALUE
    };
    private static final Set<String> FACE = Set.of(
        "public static final int NONE",
        "public DeclarativeRows()",
        "public int exception(int,int)",
        "public int use(int,int)",
        "public int check(int,int,boolean)",
        "public int raise(int,int)",
        "public int taken(int)",
        "public int resume(int,int)",
        "public int nested(int)",
        "public int propagate(int)",
        "public int last(int)",
        "public int status(int,int)",
        "public int mode(int,int)",
        "public boolean ends()",
        "public int count(int)");

    private static int wrong = 0;

    public static void main(String[] args) throws IllegalAccessException {
        membersAreTheFace();
        for (int many = 0; many <= 61; many++) {
            noArgumentThrows(many);
        }
        System.out.println(wrong == 0 ? "the face is as due" : wrong + " faults of the face");
        if (wrong != 0) {
            System.exit(1);
        }
    }

    private static void fault(String text) {
        wrong++;
        System.out.println(text);
    }

    private static void membersAreTheFace() {
        Class<?> face = DeclarativeRows.class;
        int flags = face.getModifiers();
        if (!Modifier.isPublic(flags) || !Modifier.isFinal(flags)) {
            fault("the class is not public and final");
        }
        Set<String> found = new TreeSet<>();
        for (Field f : face.getDeclaredFields()) {
            if (!Modifier.isPrivate(f.getModifiers())) {
                found.add(Modifier.toString(f.getModifiers()) + " " + f.getType().getName() + " " + f.getName());
            }
        }
        for (Constructor<?> c : face.getDeclaredConstructors()) {
            if (!Modifier.isPrivate(c.getModifiers())) {
                found.add(Modifier.toString(c.getModifiers()) + " DeclarativeRows" + list(c.getParameterTypes()));
            }
        }
        for (Method m : face.getDeclaredMethods()) {
            if (!Modifier.isPrivate(m.getModifiers())) {
                found.add(Modifier.toString(m.getModifiers()) + " " + m.getReturnType().getName() + " "
                    + m.getName() + list(m.getParameterTypes()));
            }
        }
        if (!found.equals(FACE)) {
            fault("the face is " + found + ", due is " + new TreeSet<>(FACE));
        }
        if (DeclarativeRows.NONE != -1) {
            fault("NONE is " + DeclarativeRows.NONE);
        }
        if (face.getSuperclass() != Object.class || face.getInterfaces().length != 0) {
            fault("the class has other members from a class or an interface above it");
        }
        classesInsideAreHidden(face);
    }

    private static void classesInsideAreHidden(Class<?> face) {
        for (Class<?> inside : face.getDeclaredClasses()) {
            int flags = inside.getModifiers();
            if (Modifier.isPublic(flags) || Modifier.isProtected(flags) || !Modifier.isStatic(flags)) {
                fault(inside.getName() + " is not hidden and static");
            }
        }
    }

    private static String list(Class<?>[] types) {
        StringBuilder text = new StringBuilder("(");
        for (Class<?> type : types) {
            text.append(text.length() > 1 ? "," : "").append(type.getName());
        }
        return text.append(")").toString();
    }

    /** A state with many rows, up to and beyond every limit. */
    private static DeclarativeRows filled(int many) {
        DeclarativeRows x = new DeclarativeRows();
        for (int i = 1; i <= many; i++) {
            x.exception(1 + i % 3, 50 + i % 50);
            x.use(0, i);
            x.check(i, 0, true);
            x.check(i, 100, false);
            x.raise(i, 50);
        }
        return x;
    }

    private static void noArgumentThrows(int many) throws IllegalAccessException {
        for (Method m : DeclarativeRows.class.getMethods()) {
            if (m.getDeclaringClass() != DeclarativeRows.class) {
                continue;
            }
            // An object has 512 calls; filling it takes up to 305 and this up to 32.
            if (m.getParameterCount() <= 1) {
                callAll(filled(many), m, 0);
                continue;
            }
            for (int first : EDGES) {
                callAll(filled(many), m, first);
            }
        }
    }

    private static void callAll(DeclarativeRows x, Method m, int first) throws IllegalAccessException {
        for (int edge : EDGES) {
            Object[] given = m.getParameterCount() == 0 ? new Object[] {}
                : m.getParameterCount() == 1 ? new Object[] {edge}
                : m.getParameterCount() == 2 ? new Object[] {first, edge}
                : new Object[] {first, edge, true};
            try {
                m.invoke(x, given);
            } catch (InvocationTargetException thrown) {
                fault(m.getName() + Arrays.toString(given) + " threw " + thrown.getCause());
            }
        }
    }
}
