/** The steps 1, 2 and 5 of a tick: late ones, work that is ready, the queues. */
final class TickTest {
    private TickTest() {
    }

    static void run() {
        lateInEachState();
        lateCancelsBelow();
        lateAheadOfReady();
        readyByRisingNumbers();
        doneWithoutARow();
        queueIsInOrder();
        queueDropsWhatHasNoTime();
        queueUsesTheWorkOfNow();
        queueDoesNotAskTheBreaker();
    }

    private static void lateInEachState() {
        DeadlineCalls x = new DeadlineCalls();
        x.setRoom(0, 1, 1, 0);
        x.setWork(0, 10, 0);
        x.call(0, 10);
        x.call(0, 10);
        x.ask(1, 2);
        x.setWork(2, 5, 0);
        x.call(1, 4);
        Check.same("step 1 no call is late", x.pass(3), 0);
        Check.same("step 1 the try was dropped, there being 3 less 1 ticks", x.state(3), DeadlineCalls.DROPPED);
        Check.same("step 1 the root tried again twice", x.calls(), 6);
        Check.same("step 1 and is asking", x.state(2), DeadlineCalls.ASKING);
        Check.same("step 1 it is late ahead of step 3", x.pass(1), 1);
        Check.same("step 1 an asking one", x.state(2), DeadlineCalls.LATE);
        x.pass(6);
        Check.same("step 1 a working one", x.state(0), DeadlineCalls.LATE);
        Check.same("step 1 a queued one", x.state(1), DeadlineCalls.LATE);
        Check.same("step 1 over at the deadline", x.overAt(1), 10);
        Check.same("step 1 none is queued", x.count(0, DeadlineCalls.QUEUED), 0);
    }

    private static void lateCancelsBelow() {
        // The try has the deadline less 1, so it is late a tick ahead of its parent.
        DeadlineCalls x = new DeadlineCalls();
        x.ask(0, 1);
        x.setWork(1, 8, 0);
        x.call(0, 10);
        x.pass(1);
        Check.same("step 4 deadline less 1", x.deadline(1), 9);
        Check.same("step 4 just time enough", x.state(1), DeadlineCalls.WORKING);
        x.pass(8);
        Check.same("step 1 the try is late", x.state(1), DeadlineCalls.LATE);
        Check.same("step 3 its parent tries again", x.tokens(1), 10);
        Check.same("step 4 in vain", x.state(2), DeadlineCalls.DROPPED);
        Check.same("step 1 a tick later the root is late", x.pass(1), 1);
        Check.same("step 1 late", x.state(0), DeadlineCalls.LATE);
        Check.same("step 3 asked nothing more", x.calls(), 3);
    }

    private static void lateAheadOfReady() {
        DeadlineCalls x = new DeadlineCalls();
        x.setWork(0, 3, 1);
        x.call(0, 3);
        x.pass(3);
        Check.same("step 1 late, not failed", x.state(0), DeadlineCalls.LATE);
        x.setWork(0, 2, 2);
        x.call(0, 2);
        x.pass(2);
        int a = x.call(0, 9);
        x.pass(2);
        Check.same("step 2 a late one was no work", x.state(a), DeadlineCalls.DONE);
        int b = x.call(0, 9);
        x.pass(2);
        Check.same("step 2 the second work fails", x.state(b), DeadlineCalls.FAILED);
    }

    private static void readyByRisingNumbers() {
        DeadlineCalls x = new DeadlineCalls();
        x.setRoom(0, 5, 0, 0);
        x.setWork(0, 2, 3);
        for (int i = 0; i < 5; i++) {
            x.call(0, 9);
        }
        Check.same("step 2 not ready", x.pass(1), 0);
        Check.same("step 2 all five", x.pass(1), 5);
        int[] due = {3, 3, 4, 3, 3};
        for (int i = 0; i < 5; i++) {
            Check.same("step 2 call " + i, x.state(i), due[i]);
        }
        x.call(0, 9);
        x.pass(2);
        Check.same("step 2 the sixth work", x.state(5), DeadlineCalls.FAILED);
    }

    private static void doneWithoutARow() {
        DeadlineCalls x = new DeadlineCalls();
        x.call(4, 2);
        x.pass(1);
        Check.same("step 2 done", x.state(0), DeadlineCalls.DONE);
        Check.same("step 2 then", x.overAt(0), 1);
        Check.same("a token more", x.tokens(4), 21);
        for (int i = 0; i < 29; i++) {
            x.call(4, 2);
            x.pass(1);
        }
        Check.same("50 tokens", x.tokens(4), 50);
        x.call(4, 2);
        x.pass(1);
        Check.same("at most 50 tokens", x.tokens(4), 50);
    }

    private static void queueIsInOrder() {
        DeadlineCalls x = new DeadlineCalls();
        x.setRoom(0, 1, 8, 0);
        x.setWork(0, 2, 0);
        for (int i = 0; i < 4; i++) {
            x.call(0, 50);
        }
        for (int i = 0; i < 4; i++) {
            Check.same("step 5 works in turn", x.state(i), DeadlineCalls.WORKING);
            Check.same("step 5 one at a time", x.pass(1), 0);
            Check.same("step 5 one is done", x.pass(1), 1);
            Check.same("step 5 then", x.overAt(i), 2 * i + 2);
        }
    }

    private static void queueDropsWhatHasNoTime() {
        DeadlineCalls x = new DeadlineCalls();
        x.setRoom(0, 1, 8, 0);
        x.setWork(0, 5, 0);
        x.call(0, 50);
        x.call(0, 9);
        x.call(0, 10);
        x.call(0, 50);
        x.pass(4);
        Check.same("step 5 dropped only when its turn comes", x.state(1), DeadlineCalls.QUEUED);
        Check.same("step 5 done and dropped", x.pass(1), 2);
        Check.same("step 5 four ticks are too few", x.state(1), DeadlineCalls.DROPPED);
        Check.same("step 5 five are enough", x.state(2), DeadlineCalls.WORKING);
        Check.same("step 5 the next waits", x.state(3), DeadlineCalls.QUEUED);
        Check.same("step 5 late with its deadline", x.pass(5), 1);
        Check.same("step 1 late", x.state(2), DeadlineCalls.LATE);
        Check.same("step 5 the worker is free at once", x.state(3), DeadlineCalls.WORKING);
    }

    private static void queueUsesTheWorkOfNow() {
        DeadlineCalls x = new DeadlineCalls();
        x.setRoom(0, 1, 8, 0);
        x.setWork(0, 2, 0);
        x.call(0, 50);
        x.call(0, 10);
        x.setWork(0, 9, 0);
        x.pass(2);
        Check.same("step 5 eight ticks are less than nine", x.state(1), DeadlineCalls.DROPPED);
    }

    private static void queueDoesNotAskTheBreaker() {
        DeadlineCalls x = new DeadlineCalls();
        x.setRoom(0, 3, 8, 0);
        x.setWork(0, 1, 1);
        for (int i = 0; i < 4; i++) {
            x.call(0, 50);
        }
        x.pass(1);
        Check.same("the breaker is open", x.isOpen(0), true);
        Check.same("step 5 the queued one works all the same", x.state(3), DeadlineCalls.WORKING);
        Check.same("one that begins is failed", x.state(x.call(0, 50)), DeadlineCalls.FAILED);
    }
}
