/** Promises 8 to 19: what can be read of the layer as it is. */
final class ReadingsTest {
    private ReadingsTest() {
    }

    static void run() {
        timeAndCalls();
        readingsOfATree();
        noSuchCall();
        queue();
        counts();
        noSuchService();
    }

    private static void timeAndCalls() {
        DeadlineCalls x = new DeadlineCalls();
        x.pass(100);
        x.pass(1);
        Check.same("8 time", x.time(), 101);
        x.ask(0, 1);
        x.call(0, 9);
        Check.same("9 one call", x.calls(), 1);
        x.pass(1);
        Check.same("9 with its try", x.calls(), 2);
        x.pass(9);
        Check.same("9 those that are over too", x.calls(), 2);
        Check.same("8 reading takes no time", x.time(), 111);
    }

    private static void readingsOfATree() {
        DeadlineCalls x = new DeadlineCalls();
        x.ask(1, 4);
        x.ask(1, 5);
        x.setWork(1, 3, 0);
        x.setWork(5, 6, 0);
        x.pass(10);
        x.call(1, 40);
        Check.same("10 working", x.state(0), DeadlineCalls.WORKING);
        Check.same("11 a root", x.origin(0), 1000);
        Check.same("12 deadline", x.deadline(0), 50);
        Check.same("13 not over", x.overAt(0), DeadlineCalls.NONE);
        Check.same("14 not asking", x.place(0), DeadlineCalls.NONE);
        Check.same("15 none below", x.below(0), 0);
        x.pass(3);
        Check.same("10 asking", x.state(0), DeadlineCalls.ASKING);
        Check.same("14 the first", x.place(0), 0);
        Check.same("15 one below", x.below(0), 1);
        Check.same("11 a call of 4, made by 0", x.origin(1), 4001);
        Check.same("12 less 1", x.deadline(1), 49);
        Check.same("14 a working one", x.place(1), DeadlineCalls.NONE);
        x.pass(1);
        Check.same("10 done", x.state(1), DeadlineCalls.DONE);
        Check.same("13 then", x.overAt(1), 14);
        Check.same("14 the second", x.place(0), 1);
        Check.same("15 those over do not count", x.below(0), 1);
        Check.same("11 a call of 5, made by 0", x.origin(2), 5001);
        Check.same("12 less 1", x.deadline(2), 49);
        x.pass(6);
        Check.same("10 done", x.state(0), DeadlineCalls.DONE);
        Check.same("13 then", x.overAt(0), 20);
        Check.same("14 no more", x.place(0), DeadlineCalls.NONE);
        Check.same("15 none", x.below(0), 0);
        Check.same("12 the deadline stays", x.deadline(0), 50);
        Check.same("11 the origin stays", x.origin(0), 1000);
    }

    private static void noSuchCall() {
        DeadlineCalls x = new DeadlineCalls();
        x.call(0, 9);
        for (int c : new int[] {-1, 1, 199, 200, Integer.MIN_VALUE, Integer.MAX_VALUE}) {
            Check.noSuch("10 call " + c, () -> x.state(c));
            Check.noSuch("11 call " + c, () -> x.origin(c));
            Check.noSuch("12 call " + c, () -> x.deadline(c));
            Check.noSuch("13 call " + c, () -> x.overAt(c));
            Check.noSuch("14 call " + c, () -> x.place(c));
            Check.noSuch("15 call " + c, () -> x.below(c));
        }
    }

    private static void queue() {
        DeadlineCalls x = new DeadlineCalls();
        x.setRoom(3, 1, 3, 0);
        x.setWork(3, 4, 0);
        x.call(3, 50);
        x.call(2, 50);
        x.call(3, 50);
        x.call(3, 50);
        x.call(2, 50);
        x.call(3, 50);
        Check.same("16 the next", x.queuedAt(3, 0), 2);
        Check.same("16 the one behind", x.queuedAt(3, 1), 3);
        Check.same("16 the last", x.queuedAt(3, 2), 5);
        Check.noSuch("16 no more", () -> x.queuedAt(3, 3));
        Check.noSuch("16 place -1", () -> x.queuedAt(3, -1));
        Check.noSuch("16 least int", () -> x.queuedAt(3, Integer.MIN_VALUE));
        Check.noSuch("16 no queue", () -> x.queuedAt(2, 0));
        Check.noSuch("16 service 6", () -> x.queuedAt(6, 0));
        Check.noSuch("16 service -1", () -> x.queuedAt(-1, 0));
        x.cancel(3);
        Check.same("16 after a cancelled one", x.queuedAt(3, 1), 5);
        x.pass(4);
        Check.same("16 after a tick", x.queuedAt(3, 0), 5);
        Check.noSuch("16 one alone", () -> x.queuedAt(3, 1));
    }

    private static void counts() {
        DeadlineCalls x = new DeadlineCalls();
        x.ask(0, 1);
        x.setRoom(0, 1, 1, 0);
        x.setWork(1, 4, 0);
        x.call(0, 9);
        x.call(0, 9);
        x.call(0, 9);
        int[] atOnce = {1, 1, 0, 0, 0, 0, 1, 0};
        sameCounts("17 at once", x, 0, atOnce);
        x.pass(1);
        int[] afterATick = {0, 1, 1, 0, 0, 0, 1, 0};
        sameCounts("17 after a tick", x, 0, afterATick);
        int[] ofTheOther = {0, 1, 0, 0, 0, 0, 0, 0};
        sameCounts("17 of the other service", x, 1, ofTheOther);
        x.cancel(1);
        x.pass(4);
        int[] atLast = {0, 0, 0, 1, 0, 0, 1, 1};
        sameCounts("17 at last", x, 0, atLast);
        Check.outOfRange("17 state -1", () -> x.count(0, -1));
        Check.outOfRange("17 state 8", () -> x.count(0, 8));
        Check.outOfRange("17 greatest int", () -> x.count(5, Integer.MAX_VALUE));
        Check.noSuch("17 service 6", () -> x.count(6, 8));
        Check.noSuch("17 service -1", () -> x.count(-1, 0));
    }

    private static void sameCounts(String what, DeadlineCalls x, int service, int[] due) {
        for (int state = 0; state < due.length; state++) {
            Check.same(what + " in state " + state, x.count(service, state), due[state]);
        }
    }

    private static void noSuchService() {
        DeadlineCalls x = new DeadlineCalls();
        x.call(5, 3);
        x.pass(1);
        Check.same("18 tokens", x.tokens(5), 21);
        Check.same("18 tokens of another", x.tokens(4), 20);
        Check.same("19 not open", x.isOpen(5), false);
        for (int s : new int[] {-1, 6, Integer.MIN_VALUE, Integer.MAX_VALUE}) {
            Check.noSuch("18 service " + s, () -> x.tokens(s));
            Check.noSuch("19 service " + s, () -> x.isOpen(s));
        }
    }
}
