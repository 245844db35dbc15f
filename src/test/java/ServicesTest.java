/** Promises 1 to 4: a new object, setWork, ask, setRoom. */
final class ServicesTest {
    private ServicesTest() {
    }

    static void run() {
        newObject();
        firstSettings();
        workBefore();
        workForCallsFromNowOn();
        eachIsCountedFromWhenTold();
        workOutOfRange();
        askCounts();
        rowAsItWas();
        askWrong();
        roomBefore();
        roomKeepsCalls();
        roomOutOfRange();
    }

    private static void newObject() {
        DeadlineCalls x = new DeadlineCalls();
        Check.same("1 time", x.time(), 0);
        Check.same("1 calls", x.calls(), 0);
        for (int s = 0; s < 6; s++) {
            Check.same("1 tokens of " + s, x.tokens(s), 20);
            Check.same("1 breaker of " + s, x.isOpen(s), false);
            for (int state = 0; state < 8; state++) {
                Check.same("1 count of " + s + " in " + state, x.count(s, state), 0);
            }
        }
        Check.noSuch("1 no call 0", () -> x.state(0));
    }

    private static void firstSettings() {
        DeadlineCalls x = new DeadlineCalls();
        for (int i = 0; i < 7; i++) {
            x.call(0, 10);
        }
        Check.same("2 workers at first", x.count(0, DeadlineCalls.WORKING), 2);
        Check.same("room of 4 at first", x.count(0, DeadlineCalls.QUEUED), 4);
        Check.same("the seventh is dropped", x.state(6), DeadlineCalls.DROPPED);
        Check.same("a tick of work at first", x.pass(1), 2);
        Check.same("none fails at first", x.count(0, DeadlineCalls.DONE), 2);
    }

    private static void workBefore() {
        DeadlineCalls x = new DeadlineCalls();
        Check.same("2 work at first", x.setWork(5, 20, 20), 1);
        Check.same("2 work before", x.setWork(5, 1, 0), 20);
        Check.same("2 work before", x.setWork(5, 7, 1), 1);
        Check.same("2 of another service", x.setWork(0, 2, 0), 1);
    }

    private static void workForCallsFromNowOn() {
        DeadlineCalls x = new DeadlineCalls();
        x.setRoom(1, 1, 4, 0);
        x.setWork(1, 5, 0);
        x.call(1, 50);
        x.call(1, 50);
        x.setWork(1, 2, 0);
        Check.same("2 the working one keeps its 5 ticks", x.pass(4), 0);
        Check.same("2 and is done then", x.pass(1), 1);
        Check.same("2 the queued one takes 2", x.pass(1), 0);
        Check.same("2 and is done then", x.pass(1), 1);
    }

    private static void eachIsCountedFromWhenTold() {
        DeadlineCalls x = new DeadlineCalls();
        x.setWork(2, 1, 3);
        int[] due = {3, 3, 4, 3, 3, 4, 3};
        for (int i = 0; i < due.length; i++) {
            int c = x.call(2, 5);
            x.pass(1);
            Check.same("2 work " + i + " of each third", x.state(c), due[i]);
        }
        // One work since the last failure; told again, it counts anew.
        x.setWork(2, 1, 3);
        int[] anew = {3, 3, 4};
        for (int i = 0; i < anew.length; i++) {
            int c = x.call(2, 5);
            x.pass(1);
            Check.same("2 work " + i + " since it was told again", x.state(c), anew[i]);
        }
        x.setWork(2, 1, 0);
        for (int i = 0; i < 21; i++) {
            int c = x.call(2, 5);
            x.pass(1);
            Check.same("2 none fails with 0", x.state(c), 3);
        }
    }

    private static void workOutOfRange() {
        DeadlineCalls x = new DeadlineCalls();
        Check.noSuch("2 service -1", () -> x.setWork(-1, 5, 5));
        Check.noSuch("2 service 6", () -> x.setWork(6, 0, 99));
        Check.noSuch("2 least int", () -> x.setWork(Integer.MIN_VALUE, 5, 5));
        Check.noSuch("2 greatest int", () -> x.setWork(Integer.MAX_VALUE, 5, 5));
        Check.outOfRange("2 work 0", () -> x.setWork(0, 0, 5));
        Check.outOfRange("2 work 21", () -> x.setWork(0, 21, 5));
        Check.outOfRange("2 each -1", () -> x.setWork(0, 5, -1));
        Check.outOfRange("2 each 21", () -> x.setWork(0, 5, 21));
        Check.same("2 nothing changed", x.setWork(0, 1, 2), 1);
        // A refused telling does not start the count again.
        x.call(0, 5);
        x.pass(1);
        Check.outOfRange("2 each 21 again", () -> x.setWork(0, 5, 21));
        int second = x.call(0, 5);
        x.pass(1);
        Check.same("2 the second work fails still", x.state(second), DeadlineCalls.FAILED);
    }

    private static void askCounts() {
        DeadlineCalls x = new DeadlineCalls();
        Check.same("3 one", x.ask(0, 5), 1);
        Check.same("3 two", x.ask(0, 1), 2);
        Check.same("3 the same again", x.ask(0, 1), 3);
        Check.notNow("3 a fourth", () -> x.ask(0, 2));
        Check.same("3 another service", x.ask(4, 5), 1);
        // Behind those that it asks already: 5, then 1, then 1.
        x.call(0, 60);
        x.pass(1);
        Check.same("3 asks 5 first", x.origin(1), 5001);
        x.pass(1);
        Check.same("3 then 1", x.origin(2), 1001);
        Check.same("3 at place 1", x.place(0), 1);
        x.pass(1);
        Check.same("3 then 1 again", x.origin(3), 1001);
        Check.same("3 at place 2", x.place(0), 2);
        Check.same("3 then it is done", x.pass(1), 1);
        Check.same("3 with no call more", x.calls(), 4);
    }

    private static void rowAsItWas() {
        DeadlineCalls x = new DeadlineCalls();
        x.ask(0, 1);
        x.call(0, 50);
        x.pass(1);
        x.ask(0, 2);
        Check.same("3 an asking call keeps its row", x.pass(1), 1);
        Check.same("3 and made no call more", x.calls(), 2);
        x.call(0, 50);
        x.ask(0, 3);
        x.pass(4);
        Check.same("3 a call that worked asks the row of then", x.calls(), 6);
        Check.same("3 with its last service", x.origin(5), 3003);
        x.call(1, 50);
        x.ask(1, 2);
        x.pass(1);
        Check.same("3 the row counts when work is ready", x.state(6), DeadlineCalls.ASKING);
    }

    private static void askWrong() {
        DeadlineCalls x = new DeadlineCalls();
        Check.noSuch("3 service -1", () -> x.ask(-1, 1));
        Check.noSuch("3 service 6", () -> x.ask(6, 1));
        Check.noSuch("3 other 6", () -> x.ask(0, 6));
        Check.noSuch("3 other -1", () -> x.ask(3, -1));
        Check.outOfRange("3 itself", () -> x.ask(0, 0));
        Check.outOfRange("3 a smaller one", () -> x.ask(3, 2));
        Check.outOfRange("3 none is above 5", () -> x.ask(5, 5));
        Check.same("3 nothing changed", x.ask(3, 4), 1);
        x.ask(3, 4);
        x.ask(3, 4);
        Check.noSuch("3 full, no such service", () -> x.ask(3, 6));
        Check.outOfRange("3 full, not above", () -> x.ask(3, 3));
        Check.notNow("3 full", () -> x.ask(3, 5));
    }

    private static void roomBefore() {
        DeadlineCalls x = new DeadlineCalls();
        Check.same("4 workers at first", x.setRoom(0, 5, 8, 50), 2);
        Check.same("4 workers before", x.setRoom(0, 1, 0, 0), 5);
        Check.same("4 workers before", x.setRoom(0, 3, 4, 1), 1);
        Check.same("4 another service", x.setRoom(5, 3, 4, 1), 2);
    }

    private static void roomKeepsCalls() {
        DeadlineCalls x = new DeadlineCalls();
        x.setWork(0, 3, 0);
        for (int i = 0; i < 6; i++) {
            x.call(0, 50);
        }
        x.setRoom(0, 1, 0, 0);
        Check.same("4 working ones stay", x.count(0, DeadlineCalls.WORKING), 2);
        Check.same("4 queued ones stay", x.count(0, DeadlineCalls.QUEUED), 4);
        x.pass(3);
        Check.same("4 one worker then", x.count(0, DeadlineCalls.WORKING), 1);
        Check.same("4 the others wait", x.count(0, DeadlineCalls.QUEUED), 3);
        Check.same("4 no room for one more", x.state(x.call(0, 50)), DeadlineCalls.DROPPED);
        x.setRoom(0, 3, 0, 0);
        Check.same("4 queued ones stay with more workers", x.count(0, DeadlineCalls.QUEUED), 3);
        Check.same("4 one that begins finds a worker", x.state(x.call(0, 50)), DeadlineCalls.WORKING);
        x.pass(1);
        Check.same("4 with the tick a queued one works", x.count(0, DeadlineCalls.WORKING), 3);
        Check.same("4 two are left", x.count(0, DeadlineCalls.QUEUED), 2);
    }

    private static void roomOutOfRange() {
        DeadlineCalls x = new DeadlineCalls();
        Check.noSuch("4 service -1", () -> x.setRoom(-1, 1, 1, 1));
        Check.noSuch("4 service 6", () -> x.setRoom(6, 0, 1, 1));
        Check.outOfRange("4 workers 0", () -> x.setRoom(0, 0, 1, 1));
        Check.outOfRange("4 workers 6", () -> x.setRoom(0, 6, 1, 1));
        Check.outOfRange("4 room -1", () -> x.setRoom(0, 1, -1, 1));
        Check.outOfRange("4 room 9", () -> x.setRoom(0, 1, 9, 1));
        Check.outOfRange("4 patience -1", () -> x.setRoom(0, 1, 1, -1));
        Check.outOfRange("4 patience 51", () -> x.setRoom(0, 1, 1, 51));
        Check.same("4 nothing changed", x.setRoom(0, 2, 4, 0), 2);
    }
}
