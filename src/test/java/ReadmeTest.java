import java.io.IOException;
import java.nio.file.Files;
import java.nio.file.Path;
import java.util.ArrayList;
import java.util.List;

/** The examples of README.md: they stand there as they stand here, and answer what they say. */
final class ReadmeTest {
    private static final String BEGIN = "// README begins";
    private static final String END = "// README ends";

    private ReadmeTest() {
    }

    static void run() throws IOException {
        sameText();
        askingAnother();
        failing();
        cancelling();
    }

    private static void sameText() throws IOException {
        List<String> here = between(Path.of("src/test/java/ReadmeTest.java"), BEGIN, END);
        List<String> there = between(Path.of("README.md"), "```java", "```");
        Check.same("README.md has some lines of code", there.isEmpty(), false);
        Check.same("README.md has the code of ReadmeTest", there, here);
    }

    /** The lines between lines that are the marks, without the blanks ahead of them. */
    private static List<String> between(Path file, String begin, String end) throws IOException {
        List<String> found = new ArrayList<>();
        boolean inside = false;
        for (String line : Files.readAllLines(file)) {
            String plain = line.strip();
            if (!inside && plain.equals(begin)) {
                inside = true;
            } else if (inside && plain.equals(end)) {
                inside = false;
            } else if (inside) {
                found.add(plain);
            }
        }
        return found;
    }

    private static void askingAnother() {
        // README begins
        DeadlineCalls x = new DeadlineCalls();
        x.ask(0, 1);                     // service 0 asks service 1 when its own work is ready
        x.setWork(1, 3, 0);              // a call of 1 works 3 ticks, and none fails
        int root = x.call(0, 30);        // 0: a root call of 0, 30 ticks ahead of its deadline
        int over = x.pass(1);            // 0: its work was ready, but no root call is over yet
        int state = x.state(root);       // DeadlineCalls.ASKING
        int made = x.calls();            // 2: the root call, and the try of service 1 that it made
        int origin = x.origin(1);        // 1001: of service 1, made by call 0
        int deadline = x.deadline(1);    // 29: one less than that of the root call
        int overThen = x.pass(3);        // 1: the try is DONE, and so is the root call
        int when = x.overAt(root);       // 4
        // README ends
        Check.same("README root", root, 0);
        Check.same("README over", over, 0);
        Check.same("README state", state, DeadlineCalls.ASKING);
        Check.same("README made", made, 2);
        Check.same("README origin", origin, 1001);
        Check.same("README deadline", deadline, 29);
        Check.same("README try", x.state(1), DeadlineCalls.DONE);
        Check.same("README root done", x.state(root), DeadlineCalls.DONE);
        Check.same("README overThen", overThen, 1);
        Check.same("README when", when, 4);
    }

    private static void failing() {
        // README begins
        DeadlineCalls y = new DeadlineCalls();
        y.ask(0, 1);
        y.setWork(1, 1, 1);              // each work of service 1 fails
        int asks = y.call(0, 30);
        int notYet = y.pass(2);          // 0: the first try is FAILED, and it tries again
        int left = y.tokens(1);          // 10: that took 10 of the 20 tokens of service 1
        int failed = y.pass(2);          // 1: the second and the third try are FAILED too
        int how = y.state(asks);         // DeadlineCalls.FAILED
        boolean open = y.isOpen(1);      // true: three one after the other open the breaker
        int refused = y.call(1, 30);
        int at = y.overAt(refused);      // 4: at once, the breaker let it not begin
        // README ends
        Check.same("README asks", asks, 0);
        Check.same("README notYet", notYet, 0);
        Check.same("README left", left, 10);
        Check.same("README failed", failed, 1);
        Check.same("README tries", y.count(1, DeadlineCalls.FAILED), 4);
        Check.same("README how", how, DeadlineCalls.FAILED);
        Check.same("README open", open, true);
        Check.same("README refused", y.state(refused), DeadlineCalls.FAILED);
        Check.same("README at", at, 4);
    }

    private static void cancelling() {
        // README begins
        DeadlineCalls z = new DeadlineCalls();
        z.ask(0, 1);
        z.setWork(1, 20, 0);
        z.setRoom(1, 1, 4, 5);           // one worker, room for 4, and a second try after 5 ticks
        int slow = z.call(0, 50);
        int none = z.pass(6);            // 0: at 1 the first try was made, at 6 the second one
        int next = z.queuedAt(1, 0);     // 2: the second one waits for the only worker
        int below = z.below(slow);       // 2
        int ended = z.cancel(slow);      // 3: the root call and what is below it
        // README ends
        Check.same("README slow", slow, 0);
        Check.same("README none", none, 0);
        Check.same("README next", next, 2);
        Check.same("README below", below, 2);
        Check.same("README ended", ended, 3);
    }
}
