/** Promises 5 to 7: call, cancel, pass. */
final class CallsTest {
    private CallsTest() {
    }

    static void run() {
        numbersAndDeadlines();
        beginsAtOnce();
        droppedWithoutTime();
        callWrong();
        twoHundredCalls();
        cancelsTheTree();
        cancelFreesWorkersAtTheTick();
        cancelLeavesOthers();
        cancelWrong();
        passCountsRoots();
        passWrong();
    }

    private static void numbersAndDeadlines() {
        DeadlineCalls x = new DeadlineCalls();
        Check.same("5 first number", x.call(0, 1), 0);
        Check.same("5 second number", x.call(5, 100), 1);
        Check.same("5 deadline", x.deadline(0), 1);
        Check.same("5 deadline", x.deadline(1), 100);
        x.pass(7);
        Check.same("5 third number", x.call(3, 10), 2);
        Check.same("5 deadline from the time on", x.deadline(2), 17);
        Check.same("5 a root of service 3", x.origin(2), 3000);
    }

    private static void beginsAtOnce() {
        DeadlineCalls x = new DeadlineCalls();
        x.setRoom(0, 1, 1, 0);
        Check.same("5 works", x.state(x.call(0, 9)), DeadlineCalls.WORKING);
        Check.same("5 queued", x.state(x.call(0, 9)), DeadlineCalls.QUEUED);
        Check.same("5 dropped", x.state(x.call(0, 9)), DeadlineCalls.DROPPED);
        Check.same("5 over at once", x.overAt(2), 0);
        Check.same("5 the other is not over", x.overAt(1), DeadlineCalls.NONE);
    }

    private static void droppedWithoutTime() {
        DeadlineCalls x = new DeadlineCalls();
        x.setWork(0, 5, 0);
        Check.same("5 less time than work", x.state(x.call(0, 4)), DeadlineCalls.DROPPED);
        Check.same("5 just as much", x.state(x.call(0, 5)), DeadlineCalls.WORKING);
        Check.same("5 late in the tick in which it would be ready", x.pass(5), 1);
        Check.same("5 late", x.state(1), DeadlineCalls.LATE);
        Check.same("5 a tick more is enough", x.state(x.call(0, 6)), DeadlineCalls.WORKING);
        x.pass(5);
        Check.same("5 done", x.state(2), DeadlineCalls.DONE);
    }

    private static void callWrong() {
        DeadlineCalls x = new DeadlineCalls();
        Check.noSuch("5 service -1", () -> x.call(-1, 5));
        Check.noSuch("5 service 6", () -> x.call(6, 0));
        Check.outOfRange("5 ticks 0", () -> x.call(0, 0));
        Check.outOfRange("5 ticks 101", () -> x.call(0, 101));
        Check.outOfRange("5 ticks below", () -> x.call(0, Integer.MIN_VALUE));
        Check.same("5 nothing made", x.calls(), 0);
    }

    private static void twoHundredCalls() {
        DeadlineCalls x = new DeadlineCalls();
        x.setRoom(0, 1, 0, 0);
        x.ask(0, 1);
        x.call(0, 100);
        for (int i = 1; i < 200; i++) {
            Check.same("5 number", x.call(0, 100), i);
        }
        Check.same("5 all", x.calls(), 200);
        Check.notNow("5 one more", () -> x.call(0, 100));
        Check.noSuch("5 one more of no service", () -> x.call(6, 100));
        Check.outOfRange("5 one more without ticks", () -> x.call(0, 0));
        Check.same("5 still all", x.calls(), 200);
        Check.same("step 4 no try can be made", x.pass(1), 1);
        Check.same("step 4 it is failed", x.state(0), DeadlineCalls.FAILED);
        Check.same("step 4 at that time", x.overAt(0), 1);
    }

    /** A tree of four: 0 asks 1 (call 1), that asks 2 (call 2), that asks 3 (call 3). */
    private static DeadlineCalls chainOfFour() {
        DeadlineCalls x = new DeadlineCalls();
        x.ask(0, 1);
        x.ask(1, 2);
        x.ask(2, 3);
        x.setWork(3, 20, 0);
        x.call(0, 90);
        x.pass(3);
        return x;
    }

    private static void cancelsTheTree() {
        DeadlineCalls x = chainOfFour();
        Check.same("6 four calls", x.calls(), 4);
        x.pass(2);
        Check.same("6 all four", x.cancel(0), 4);
        for (int c = 0; c < 4; c++) {
            Check.same("6 cancelled", x.state(c), DeadlineCalls.CANCELLED);
            Check.same("6 at the time", x.overAt(c), 5);
        }
        Check.same("6 no worker is bound", x.count(3, DeadlineCalls.WORKING), 0);
        Check.same("6 no token for that", x.tokens(3), 20);
        Check.same("6 nothing comes after", x.pass(30), 0);
        Check.same("6 nor is a call made", x.calls(), 4);
    }

    private static void cancelFreesWorkersAtTheTick() {
        DeadlineCalls x = new DeadlineCalls();
        x.setRoom(0, 1, 2, 0);
        x.setWork(0, 4, 0);
        x.call(0, 50);
        x.call(0, 50);
        x.call(0, 50);
        Check.same("6 a queued one, alone", x.cancel(1), 1);
        Check.same("6 the one behind is next", x.queuedAt(0, 0), 2);
        Check.same("6 the working one", x.cancel(0), 1);
        Check.same("6 the queued one waits for the tick", x.state(2), DeadlineCalls.QUEUED);
        x.pass(1);
        Check.same("6 then it works", x.state(2), DeadlineCalls.WORKING);
        Check.same("6 and takes its 4 ticks", x.pass(3), 0);
        Check.same("6 and is done", x.pass(1), 1);
    }

    private static void cancelLeavesOthers() {
        DeadlineCalls x = new DeadlineCalls();
        x.ask(0, 1);
        x.setWork(1, 9, 0);
        x.call(0, 50);
        x.call(0, 50);
        x.pass(1);
        Check.same("6 with its try", x.cancel(1), 2);
        Check.same("6 the other root goes on", x.state(0), DeadlineCalls.ASKING);
        Check.same("6 and its try", x.state(2), DeadlineCalls.WORKING);
        Check.same("6 the cancelled try", x.state(3), DeadlineCalls.CANCELLED);
        Check.same("6 the other is done", x.pass(9), 1);
    }

    private static void cancelWrong() {
        DeadlineCalls x = chainOfFour();
        Check.noSuch("6 call -1", () -> x.cancel(-1));
        Check.noSuch("6 call 4", () -> x.cancel(4));
        Check.noSuch("6 call 200", () -> x.cancel(200));
        Check.notNow("6 no root", () -> x.cancel(1));
        Check.same("6 nothing changed", x.below(0), 3);
        x.cancel(0);
        Check.notNow("6 over", () -> x.cancel(0));
        Check.notNow("6 over and no root", () -> x.cancel(3));
    }

    private static void passCountsRoots() {
        DeadlineCalls x = new DeadlineCalls();
        x.ask(0, 1);
        x.setRoom(0, 1, 0, 0);
        x.call(0, 50);
        x.call(0, 50);
        x.call(2, 50);
        Check.same("7 neither tries nor those over before", x.pass(100), 2);
        Check.same("7 the time", x.time(), 100);
        Check.same("7 none is left", x.pass(1), 0);
        Check.same("7 the time", x.time(), 101);
        x.setWork(3, 3, 0);
        x.call(3, 3);
        Check.same("7 nothing yet", x.pass(2), 0);
        Check.same("7 late ones count", x.pass(1), 1);
        int cancelled = x.call(3, 9);
        x.cancel(cancelled);
        Check.same("7 a cancelled one does not", x.pass(9), 0);
    }

    private static void passWrong() {
        DeadlineCalls x = new DeadlineCalls();
        Check.outOfRange("7 ticks 0", () -> x.pass(0));
        Check.outOfRange("7 ticks -1", () -> x.pass(-1));
        Check.outOfRange("7 ticks 101", () -> x.pass(101));
        Check.same("7 no time passed", x.time(), 0);
    }
}
