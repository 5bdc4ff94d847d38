import java.lang.reflect.Array;
import java.lang.reflect.Constructor;
import java.lang.reflect.Field;
import java.lang.reflect.Method;
import java.lang.reflect.Modifier;
import java.util.Arrays;
import java.util.Collections;
import java.util.IdentityHashMap;
import java.util.Set;
import java.util.TreeSet;

/** The public face of the document, nothing beside it, and the room that an object takes. */
final class FaceTest {
    private static final String[] METHODS = {
        "int zero() IllegalStateException",
        "int parameter(int) IndexOutOfBoundsException IllegalStateException",
        "int next(int) IndexOutOfBoundsException IllegalArgumentException IllegalStateException",
        "int join(int, int, boolean) IndexOutOfBoundsException IllegalStateException",
        "int level(int, int)",
        "int put(int, int, int) IndexOutOfBoundsException IllegalArgumentException IllegalStateException",
        "int value(int, long)",
        "int part(int, int, int) IndexOutOfBoundsException",
        "boolean isAtMost(int, int) IndexOutOfBoundsException",
        "boolean isSame(int, int) IndexOutOfBoundsException",
        "int least(int) IndexOutOfBoundsException",
        "long above(int, int) IndexOutOfBoundsException",
        "int unknown() IllegalStateException",
        "int need(int, int, int) IndexOutOfBoundsException IllegalArgumentException IllegalStateException",
        "boolean isSolved()",
        "int solution(int)",
        "boolean isClash(int)",
        "boolean undo()",
        "int about(int)"};

    /** A run has room for 7.3 million fields and elements: each of 512 calls could make an object. */
    private static final int MOST_CELLS = 7_300_000 / 512;
    private static final int MOST_OBJECTS = 600_000 / 512;

    private FaceTest() {
    }

    public static void main(String[] args) throws IllegalAccessException {
        Check.due("NONE", LevelRows.NONE, -1);
        Check.dueText("the class", Modifier.toString(LevelRows.class.getModifiers()), "public final");
        methods();
        otherMembers();
        room();
        Check.end();
    }

    private static String face(Method m) {
        StringBuilder s = new StringBuilder(m.getReturnType() + " " + m.getName() + "(");
        Class<?>[] types = m.getParameterTypes();
        for (int i = 0; i < types.length; i++) {
            s.append(i == 0 ? "" : ", ").append(types[i]);
        }
        s.append(")");
        for (Class<?> e : m.getExceptionTypes()) {
            s.append(" ").append(e.getSimpleName());
        }
        return s.toString();
    }

    private static void methods() {
        Set<String> due = new TreeSet<>(Arrays.asList(METHODS));
        Set<String> got = new TreeSet<>();
        Set<String> names = new TreeSet<>();
        for (Method m : LevelRows.class.getDeclaredMethods()) {
            if (!Modifier.isPrivate(m.getModifiers())) {
                got.add(face(m));
                names.add(m.getName());
                Check.dueText(m.getName(), Modifier.toString(m.getModifiers()), "public");
            }
        }
        Check.dueText("the methods", got.toString(), due.toString());
        for (Method m : LevelRows.class.getDeclaredMethods()) {
            if (Modifier.isPrivate(m.getModifiers())) {
                Check.due("a private " + m.getName(), names.contains(m.getName()), false);
            }
        }
    }

    private static void otherMembers() {
        for (Field f : LevelRows.class.getDeclaredFields()) {
            String due = f.getName().equals("NONE") ? "public static final" : "private";
            Check.due("field " + f.getName(), Modifier.toString(f.getModifiers()).startsWith(due), true);
        }
        Constructor<?>[] all = LevelRows.class.getDeclaredConstructors();
        Check.due("constructors", all.length, 1);
        Check.dueText("the constructor", all[0].toString(), "public LevelRows()");
        for (Class<?> c : LevelRows.class.getDeclaredClasses()) {
            int bits = c.getModifiers();
            Check.due(c.getName(), Modifier.isStatic(bits) && !Modifier.isPublic(bits) && !Modifier.isProtected(bits), true);
        }
    }

    private static void room() throws IllegalAccessException {
        Set<Object> seen = Collections.newSetFromMap(new IdentityHashMap<>());
        long cells = cells(new LevelRows(), seen);
        System.out.println("a new object: " + seen.size() + " objects, " + cells + " fields and elements");
        Check.due("room for 512 new objects", seen.size() <= MOST_OBJECTS && cells <= MOST_CELLS, true);
    }

    private static long cells(Object o, Set<Object> seen) throws IllegalAccessException {
        if (o == null || !seen.add(o)) {
            return 0;
        }
        if (o.getClass().isArray()) {
            return Array.getLength(o);
        }
        long cells = 0;
        for (Field f : o.getClass().getDeclaredFields()) {
            if (!Modifier.isStatic(f.getModifiers())) {
                f.setAccessible(true);
                cells += 1 + (f.getType().isPrimitive() ? 0 : cells(f.get(o), seen));
            }
        }
        return cells;
    }
}
