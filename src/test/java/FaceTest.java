import java.io.IOException;
import java.lang.reflect.Constructor;
import java.lang.reflect.Field;
import java.lang.reflect.Method;
import java.lang.reflect.Modifier;
import java.nio.file.Files;
import java.nio.file.Path;
import java.util.ArrayList;
import java.util.List;
import java.util.Map;
import java.util.TreeMap;
import java.util.TreeSet;

/** The public face: every member of the document, and no other that can be seen from outside. */
final class FaceTest {
    private static final String INDEX = "IndexOutOfBoundsException";
    private static final String ARGUMENT = "IllegalArgumentException";
    private static final String STATE = "IllegalStateException";

    // As the document has it, with what the interface says ahead of the calls.
    private static final String[] FACE = {
        "public final class DeadlineCalls",
        "public static final int NONE = -1;",
        "public static final int QUEUED = 0, WORKING = 1, ASKING = 2, DONE = 3, FAILED = 4, LATE = 5, DROPPED = 6, CANCELLED = 7;",
        "public DeadlineCalls()",
        "// ---- services",
        "public int setWork(int service, int work, int each) throws IndexOutOfBoundsException, IllegalArgumentException",
        "public int ask(int service, int other) throws IndexOutOfBoundsException, IllegalArgumentException, IllegalStateException",
        "public int setRoom(int service, int workers, int room, int patience) throws IndexOutOfBoundsException, IllegalArgumentException",
        "// ---- calls",
        "public int call(int service, int ticks) throws IndexOutOfBoundsException, IllegalArgumentException, IllegalStateException",
        "public int cancel(int call) throws IndexOutOfBoundsException, IllegalStateException",
        "public int pass(int ticks) throws IllegalArgumentException",
        "// ---- as it is",
        "public int time()",
        "public int calls()",
        "public int state(int call) throws IndexOutOfBoundsException",
        "public int origin(int call) throws IndexOutOfBoundsException",
        "public int deadline(int call) throws IndexOutOfBoundsException",
        "public int overAt(int call) throws IndexOutOfBoundsException",
        "public int place(int call) throws IndexOutOfBoundsException",
        "public int below(int call) throws IndexOutOfBoundsException",
        "public int queuedAt(int service, int place) throws IndexOutOfBoundsException",
        "public int count(int service, int state) throws IndexOutOfBoundsException, IllegalArgumentException",
        "public int tokens(int service) throws IndexOutOfBoundsException",
        "public boolean isOpen(int service) throws IndexOutOfBoundsException",
    };

    private FaceTest() {
    }

    static void run() throws IOException {
        faceAsWritten();
        constants();
        methods();
        nothingElse();
    }

    private static void faceAsWritten() throws IOException {
        List<String> written = new ArrayList<>();
        for (String line : Files.readAllLines(Path.of("src/main/java/DeadlineCalls.java"))) {
            String plain = line.strip();
            boolean ofTheFace = plain.startsWith("public ") || plain.startsWith("protected ");
            // Sections behind the last public method are the class's own.
            boolean section = plain.startsWith("// ----") && written.size() < FACE.length;
            if (ofTheFace || section) {
                written.add(plain.endsWith(" {") ? plain.substring(0, plain.length() - 2) : plain);
            }
        }
        Check.same("the face as the document has it", written, List.of(FACE));
    }

    private static void constants() {
        Check.same("NONE", DeadlineCalls.NONE, -1);
        Check.same("QUEUED", DeadlineCalls.QUEUED, 0);
        Check.same("WORKING", DeadlineCalls.WORKING, 1);
        Check.same("ASKING", DeadlineCalls.ASKING, 2);
        Check.same("DONE", DeadlineCalls.DONE, 3);
        Check.same("FAILED", DeadlineCalls.FAILED, 4);
        Check.same("LATE", DeadlineCalls.LATE, 5);
        Check.same("DROPPED", DeadlineCalls.DROPPED, 6);
        Check.same("CANCELLED", DeadlineCalls.CANCELLED, 7);
    }

    private static void methods() {
        Map<String, String> due = new TreeMap<>();
        due.put("setWork", "int of int int int " + INDEX + " " + ARGUMENT);
        due.put("ask", "int of int int " + INDEX + " " + ARGUMENT + " " + STATE);
        due.put("setRoom", "int of int int int int " + INDEX + " " + ARGUMENT);
        due.put("call", "int of int int " + INDEX + " " + ARGUMENT + " " + STATE);
        due.put("cancel", "int of int " + INDEX + " " + STATE);
        due.put("pass", "int of int " + ARGUMENT);
        due.put("time", "int of");
        due.put("calls", "int of");
        for (String name : new String[] {"state", "origin", "deadline", "overAt", "place", "below", "tokens"}) {
            due.put(name, "int of int " + INDEX);
        }
        due.put("queuedAt", "int of int int " + INDEX);
        due.put("count", "int of int int " + INDEX + " " + ARGUMENT);
        due.put("isOpen", "boolean of int " + INDEX);
        Map<String, String> seen = new TreeMap<>();
        TreeSet<String> hidden = new TreeSet<>();
        for (Method m : DeadlineCalls.class.getDeclaredMethods()) {
            if (Modifier.isPrivate(m.getModifiers())) {
                hidden.add(m.getName());
                continue;
            }
            StringBuilder told = new StringBuilder(m.getReturnType() + " of");
            for (Class<?> argument : m.getParameterTypes()) {
                told.append(' ').append(argument.getSimpleName());
            }
            for (Class<?> thrown : m.getExceptionTypes()) {
                told.append(' ').append(thrown.getSimpleName());
            }
            Check.same(m.getName() + " is public", Modifier.isPublic(m.getModifiers()), true);
            Check.same(m.getName() + " is no static", Modifier.isStatic(m.getModifiers()), false);
            seen.put(m.getName(), told.toString());
        }
        Check.same("the methods", seen, due);
        hidden.retainAll(due.keySet());
        Check.same("private methods with a public one's name", hidden, new TreeSet<String>());
    }

    private static void nothingElse() {
        Class<?> face = DeadlineCalls.class;
        Check.same("the class is public and final", Modifier.isPublic(face.getModifiers()) && Modifier.isFinal(face.getModifiers()), true);
        Constructor<?>[] made = face.getDeclaredConstructors();
        Check.same("constructors", made.length, 1);
        Check.same("its arguments", made[0].getParameterCount(), 0);
        Check.same("it is public", Modifier.isPublic(made[0].getModifiers()), true);
        int constants = 0;
        for (Field f : face.getDeclaredFields()) {
            if (Modifier.isStatic(f.getModifiers())) {
                Check.same(f.getName() + " is final", Modifier.isFinal(f.getModifiers()), true);
            }
            if (!Modifier.isPrivate(f.getModifiers())) {
                constants++;
                Check.same(f.getName() + " is a constant", Modifier.isPublic(f.getModifiers()) && f.getType() == int.class, true);
            }
        }
        Check.same("public constants", constants, 9);
        for (Class<?> inside : face.getDeclaredClasses()) {
            int m = inside.getModifiers();
            Check.same(inside.getName() + " is static and not seen outside",
                    Modifier.isStatic(m) && !Modifier.isPublic(m) && !Modifier.isProtected(m), true);
        }
    }
}
