import java.lang.reflect.Constructor;
import java.lang.reflect.Field;
import java.lang.reflect.Method;
import java.lang.reflect.Modifier;
import java.util.Map;
import java.util.TreeMap;
import java.util.TreeSet;

/** The public face: every member of the document, and no other that can be seen from outside. */
final class FaceTest {
    private static final String INDEX = "IndexOutOfBoundsException";
    private static final String ARGUMENT = "IllegalArgumentException";
    private static final String STATE = "IllegalStateException";

    private FaceTest() {
    }

    static void run() {
        constants();
        methods();
        nothingElse();
    }

    private static void constants() {
        Check.same("NONE", DeadlineCalls.NONE, -1);
        Check.same("QUEUED", DeadlineCalls.QUEUED, 0);
        Check.same("WORKING", DeadlineCalls.WORKING, 1);
        Check.same("ASKING", DeadlineCalls.ASKING, 2);
        Check.same("DONE", DeadlineCalls.DONE, 3);
        Check.same("FAILED", DeadlineCalls.FAILED, 4);
        Check.same("LATE", DeadlineCalls.LATE, 5);
        Check.same("DROPPED", DeadlineCalls.DROPPED, 6);
        Check.same("CANCELLED", DeadlineCalls.CANCELLED, 7);
    }

    private static void methods() {
        Map<String, String> due = new TreeMap<>();
        due.put("setWork", "int 3 " + INDEX + " " + ARGUMENT);
        due.put("ask", "int 2 " + INDEX + " " + ARGUMENT + " " + STATE);
        due.put("setRoom", "int 4 " + INDEX + " " + ARGUMENT);
        due.put("call", "int 2 " + INDEX + " " + ARGUMENT + " " + STATE);
        due.put("cancel", "int 1 " + INDEX + " " + STATE);
        due.put("pass", "int 1 " + ARGUMENT);
        due.put("time", "int 0");
        due.put("calls", "int 0");
        for (String name : new String[] {"state", "origin", "deadline", "overAt", "place", "below", "tokens"}) {
            due.put(name, "int 1 " + INDEX);
        }
        due.put("queuedAt", "int 2 " + INDEX);
        due.put("count", "int 2 " + INDEX + " " + ARGUMENT);
        due.put("isOpen", "boolean 1 " + INDEX);
        Map<String, String> seen = new TreeMap<>();
        TreeSet<String> hidden = new TreeSet<>();
        for (Method m : DeadlineCalls.class.getDeclaredMethods()) {
            if (Modifier.isPrivate(m.getModifiers())) {
                hidden.add(m.getName());
                continue;
            }
            StringBuilder told = new StringBuilder(m.getReturnType() + " " + m.getParameterCount());
            for (Class<?> thrown : m.getExceptionTypes()) {
                told.append(' ').append(thrown.getSimpleName());
            }
            Check.same(m.getName() + " is public", Modifier.isPublic(m.getModifiers()), true);
            Check.same(m.getName() + " is no static", Modifier.isStatic(m.getModifiers()), false);
            seen.put(m.getName(), told.toString());
        }
        Check.same("the methods", seen, due);
        hidden.retainAll(due.keySet());
        Check.same("private methods with a public one's name", hidden, new TreeSet<String>());
    }

    private static void nothingElse() {
        Class<?> face = DeadlineCalls.class;
        Check.same("the class is public and final", Modifier.isPublic(face.getModifiers()) && Modifier.isFinal(face.getModifiers()), true);
        Constructor<?>[] made = face.getDeclaredConstructors();
        Check.same("constructors", made.length, 1);
        Check.same("its arguments", made[0].getParameterCount(), 0);
        Check.same("it is public", Modifier.isPublic(made[0].getModifiers()), true);
        int constants = 0;
        for (Field f : face.getDeclaredFields()) {
            if (Modifier.isStatic(f.getModifiers())) {
                Check.same(f.getName() + " is final", Modifier.isFinal(f.getModifiers()), true);
            }
            if (!Modifier.isPrivate(f.getModifiers())) {
                constants++;
                Check.same(f.getName() + " is a constant", Modifier.isPublic(f.getModifiers()) && f.getType() == int.class, true);
            }
        }
        Check.same("public constants", constants, 9);
        for (Class<?> inside : face.getDeclaredClasses()) {
            int m = inside.getModifiers();
            Check.same(inside.getName() + " is static and not seen outside",
                    Modifier.isStatic(m) && !Modifier.isPublic(m) && !Modifier.isProtected(m), true);
        }
    }
}
