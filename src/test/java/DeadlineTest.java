/** Deadlines just reached and just not, and the order in which a call that begins is looked at. */
final class DeadlineTest {
    private DeadlineTest() {
    }

    static void run() {
        workAndDeadline();
        breakerIsAheadOfTheDeadline();
        deadlineIsAheadOfTheWorker();
        deadlineIsAheadOfTheQueue();
        workerIsAheadOfTheQueue();
        lateWhileWorking();
        lateWhileQueued();
        lateWhileAsking();
        lateIsAheadOfTheWork();
        lateIsNoWork();
        cancelledIsNoWork();
        lateIsAheadOfItsTurn();
        turnWithJustEnoughTime();
        turnWithTheWorkOfNow();
        droppedOnesLeaveTheWorkerFree();
        deadlinesShrink();
        tryWithJustEnoughTime();
        tryWithoutAnyTime();
        deadlinesStay();
        overOnesBelowStayAsTheyAre();
    }

    private static void workAndDeadline() {
        for (int work = 2; work <= 20; work += 9) {
            DeadlineCalls x = new DeadlineCalls();
            x.pass(7);
            x.setRoom(0, 5, 0, 0);
            x.setWork(0, work, 0);
            Check.same("begins: a tick less than the work", x.state(x.call(0, work - 1)), DeadlineCalls.DROPPED);
            Check.same("begins: dropped at once", x.overAt(0), 7);
            Check.same("begins: as many ticks as the work", x.state(x.call(0, work)), DeadlineCalls.WORKING);
            Check.same("begins: a tick more", x.state(x.call(0, work + 1)), DeadlineCalls.WORKING);
            Check.same("begins: both are over then", x.pass(work), 2);
            Check.same("step 1 the deadline is not later than the time", x.state(1), DeadlineCalls.LATE);
            Check.same("step 1 the deadline is later by one", x.state(2), DeadlineCalls.DONE);
        }
    }

    /** Service 0 has an open breaker, a busy worker, no room, and work of 9 ticks. */
    private static DeadlineCalls openAndBusy() {
        DeadlineCalls x = new DeadlineCalls();
        x.setWork(0, 9, 0);
        x.setRoom(0, 4, 0, 0);
        x.call(0, 90);
        x.setWork(0, 1, 1);
        x.call(0, 90);
        x.call(0, 90);
        x.call(0, 90);
        x.pass(1);
        x.setWork(0, 9, 0);
        x.setRoom(0, 1, 0, 0);
        return x;
    }

    private static void breakerIsAheadOfTheDeadline() {
        DeadlineCalls x = openAndBusy();
        Check.same("begins: failed rather than dropped for its deadline", x.state(x.call(0, 1)), DeadlineCalls.FAILED);
        Check.same("begins: failed rather than dropped for want of room", x.state(x.call(0, 90)), DeadlineCalls.FAILED);
        x.setRoom(0, 1, 8, 0);
        Check.same("begins: failed rather than queued", x.state(x.call(0, 90)), DeadlineCalls.FAILED);
        x.setRoom(0, 5, 8, 0);
        Check.same("begins: failed rather than working", x.state(x.call(0, 90)), DeadlineCalls.FAILED);
    }

    private static void deadlineIsAheadOfTheWorker() {
        DeadlineCalls x = new DeadlineCalls();
        x.setWork(0, 3, 0);
        Check.same("begins: dropped, with a worker free", x.state(x.call(0, 2)), DeadlineCalls.DROPPED);
        Check.same("begins: the worker is free still", x.count(0, DeadlineCalls.WORKING), 0);
    }

    private static void deadlineIsAheadOfTheQueue() {
        DeadlineCalls x = new DeadlineCalls();
        x.setWork(0, 3, 0);
        x.setRoom(0, 1, 8, 0);
        x.call(0, 9);
        Check.same("begins: dropped, with room in the queue", x.state(x.call(0, 2)), DeadlineCalls.DROPPED);
        Check.same("begins: queued, with as many ticks as the work", x.state(x.call(0, 3)), DeadlineCalls.QUEUED);
    }

    private static void workerIsAheadOfTheQueue() {
        DeadlineCalls x = new DeadlineCalls();
        x.setRoom(0, 1, 8, 0);
        x.setWork(0, 3, 0);
        x.call(0, 9);
        x.call(0, 9);
        x.cancel(0);
        Check.same("begins: working, though another is queued", x.state(x.call(0, 9)), DeadlineCalls.WORKING);
        Check.same("begins: that one is queued still", x.queuedAt(0, 0), 1);
    }

    private static void lateWhileWorking() {
        DeadlineCalls x = new DeadlineCalls();
        x.setWork(0, 5, 0);
        x.call(0, 5);
        Check.same("step 1 working: not late a tick ahead", x.pass(4), 0);
        Check.same("step 1 working: still", x.state(0), DeadlineCalls.WORKING);
        Check.same("step 1 working: late at the deadline", x.pass(1), 1);
        Check.same("step 1 working: late", x.state(0), DeadlineCalls.LATE);
        Check.same("step 1 working: at 5", x.overAt(0), 5);
    }

    private static void lateWhileQueued() {
        DeadlineCalls x = new DeadlineCalls();
        x.setRoom(0, 1, 8, 0);
        x.setWork(0, 20, 0);
        x.call(0, 50);
        x.setWork(0, 5, 0);
        x.call(0, 6);
        Check.same("step 1 queued: not late a tick ahead", x.pass(5), 0);
        Check.same("step 1 queued: still, though its time is too short now", x.state(1), DeadlineCalls.QUEUED);
        Check.same("step 1 queued: late at the deadline", x.pass(1), 1);
        Check.same("step 1 queued: late", x.state(1), DeadlineCalls.LATE);
        Check.noSuch("step 1 queued: no more", () -> x.queuedAt(0, 0));
    }

    private static void lateWhileAsking() {
        DeadlineCalls x = new DeadlineCalls();
        x.ask(0, 1);
        x.setWork(1, 4, 0);
        x.call(0, 6);
        Check.same("step 1 asking: not late a tick ahead", x.pass(5), 0);
        Check.same("step 1 asking: its try is late then", x.state(1), DeadlineCalls.LATE);
        Check.same("step 1 asking: still", x.state(0), DeadlineCalls.ASKING);
        Check.same("step 1 asking: late at the deadline", x.pass(1), 1);
        Check.same("step 1 asking: late", x.state(0), DeadlineCalls.LATE);
        Check.same("14 asking no more", x.place(0), DeadlineCalls.NONE);
    }

    private static void lateIsAheadOfTheWork() {
        DeadlineCalls x = new DeadlineCalls();
        x.ask(0, 1);
        x.setWork(0, 2, 1);
        x.call(0, 2);
        x.pass(2);
        Check.same("step 1 late rather than failed", x.state(0), DeadlineCalls.LATE);
        x.setWork(0, 2, 0);
        x.call(0, 2);
        x.pass(2);
        Check.same("step 1 late rather than asking", x.state(1), DeadlineCalls.LATE);
        Check.same("step 1 no try is made", x.calls(), 2);
    }

    private static void lateIsNoWork() {
        DeadlineCalls x = new DeadlineCalls();
        x.setWork(0, 2, 2);
        x.call(0, 9);
        x.call(0, 2);
        x.pass(2);
        Check.same("step 2 the first work", x.state(0), DeadlineCalls.DONE);
        Check.same("step 1 a late one", x.state(1), DeadlineCalls.LATE);
        int second = x.call(0, 9);
        x.pass(2);
        Check.same("step 2 the second work, the late one was none", x.state(second), DeadlineCalls.FAILED);
    }

    private static void cancelledIsNoWork() {
        DeadlineCalls x = new DeadlineCalls();
        x.setWork(0, 2, 2);
        x.call(0, 9);
        x.pass(1);
        x.cancel(0);
        x.call(0, 9);
        x.pass(2);
        Check.same("step 2 the first work, the cancelled one was none", x.state(1), DeadlineCalls.DONE);
        x.call(0, 9);
        x.pass(2);
        Check.same("step 2 the second work", x.state(2), DeadlineCalls.FAILED);
    }

    private static void lateIsAheadOfItsTurn() {
        DeadlineCalls x = new DeadlineCalls();
        x.setRoom(0, 1, 8, 0);
        x.setWork(0, 4, 0);
        x.call(0, 50);
        x.call(0, 4);
        x.pass(4);
        Check.same("step 1 is ahead of step 5: late, not dropped", x.state(1), DeadlineCalls.LATE);
    }

    private static void turnWithJustEnoughTime() {
        DeadlineCalls x = new DeadlineCalls();
        x.setRoom(0, 1, 8, 0);
        x.setWork(0, 3, 0);
        x.call(0, 50);
        x.call(0, 5);
        x.call(0, 6);
        x.call(0, 7);
        Check.same("step 5 one is done, one is dropped", x.pass(3), 2);
        Check.same("step 5 two ticks are less than three", x.state(1), DeadlineCalls.DROPPED);
        Check.same("step 5 dropped when its turn came", x.overAt(1), 3);
        Check.same("step 5 three are not", x.state(2), DeadlineCalls.WORKING);
        x.pass(3);
        Check.same("step 1 but it is late then", x.state(2), DeadlineCalls.LATE);
        Check.same("step 5 the last has a tick left, and is dropped", x.state(3), DeadlineCalls.DROPPED);
    }

    private static void turnWithTheWorkOfNow() {
        DeadlineCalls x = new DeadlineCalls();
        x.setRoom(0, 1, 8, 0);
        x.setWork(0, 2, 0);
        x.call(0, 50);
        x.call(0, 7);
        x.call(0, 50);
        x.setWork(0, 5, 0);
        x.pass(2);
        Check.same("step 5 five ticks are enough for the work of now", x.state(1), DeadlineCalls.WORKING);
        x.setWork(0, 1, 0);
        x.pass(4);
        Check.same("2 it goes on with five ticks", x.state(1), DeadlineCalls.WORKING);
        x.pass(1);
        Check.same("step 1 its deadline comes with the fifth", x.state(1), DeadlineCalls.LATE);
        Check.same("step 5 the next works a tick", x.pass(1), 1);
        Check.same("step 5 and is done", x.state(2), DeadlineCalls.DONE);
    }

    private static void droppedOnesLeaveTheWorkerFree() {
        DeadlineCalls x = new DeadlineCalls();
        x.setRoom(0, 1, 8, 0);
        x.setWork(0, 3, 0);
        x.call(0, 50);
        for (int i = 0; i < 7; i++) {
            x.call(0, 5);
        }
        x.call(0, 50);
        Check.same("step 5 all that have no time, in one tick", x.pass(3), 8);
        Check.same("step 5 seven are dropped", x.count(0, DeadlineCalls.DROPPED), 7);
        Check.same("step 5 the last one works", x.state(8), DeadlineCalls.WORKING);
    }

    /** The last of six calls, one below the other, as it is at 5. */
    private static void deadlinesShrink() {
        int[] ticks = {10, 11, 12};
        int[] due = {DeadlineCalls.DROPPED, DeadlineCalls.WORKING, DeadlineCalls.WORKING};
        for (int i = 0; i < 3; i++) {
            DeadlineCalls x = new DeadlineCalls();
            for (int s = 0; s < 5; s++) {
                x.ask(s, s + 1);
            }
            x.call(0, ticks[i]);
            x.pass(5);
            for (int c = 0; c < 6; c++) {
                Check.same("12 less 1 for each level", x.deadline(c), ticks[i] - c);
            }
            Check.same("step 4 with " + (ticks[i] - 10) + " ticks for 1", x.state(5), due[i]);
            x.pass(1);
            Check.same("step 1 the root at 6", x.state(0), i == 2 ? DeadlineCalls.DONE : DeadlineCalls.ASKING);
        }
    }

    private static void tryWithJustEnoughTime() {
        int[] ticks = {5, 6, 7};
        int[] due = {DeadlineCalls.DROPPED, DeadlineCalls.WORKING, DeadlineCalls.WORKING};
        int[] then = {DeadlineCalls.FAILED, DeadlineCalls.LATE, DeadlineCalls.DONE};
        for (int i = 0; i < 3; i++) {
            // At 1 the try has the deadline less 1, so less 2 in ticks, and its work takes 4.
            DeadlineCalls x = new DeadlineCalls();
            x.ask(0, 1);
            x.setWork(1, 4, 0);
            x.call(0, ticks[i]);
            x.pass(1);
            Check.same("step 4 a try with " + (ticks[i] - 2) + " ticks for 4", x.state(1), due[i]);
            Check.same("12 its deadline", x.deadline(1), ticks[i] - 1);
            x.pass(4);
            Check.same("step 1 the root at 5", x.state(0), i == 2 ? DeadlineCalls.DONE : i == 1 ? DeadlineCalls.ASKING : then[0]);
            x.pass(1);
            Check.same("step 1 the root at 6", x.state(0), then[i]);
        }
    }

    private static void tryWithoutAnyTime() {
        DeadlineCalls x = new DeadlineCalls();
        x.ask(0, 1);
        x.call(0, 2);
        x.pass(1);
        Check.same("step 4 a try whose deadline is the time", x.deadline(1), x.time());
        Check.same("step 4 is dropped", x.state(1), DeadlineCalls.DROPPED);
        Check.same("step 4 at once", x.overAt(1), 1);
        Check.same("step 1 a tick later its parent is late", x.pass(1), 1);
        Check.same("step 1 late", x.state(0), DeadlineCalls.LATE);
        Check.same("step 1 is ahead of step 3: no tokens are taken", x.tokens(1), 20);
    }

    private static void deadlinesStay() {
        DeadlineCalls x = new DeadlineCalls();
        x.call(0, 5);
        x.setWork(0, 20, 0);
        x.pass(1);
        Check.same("12 of one that is over", x.deadline(0), 5);
        x.pass(100);
        Check.same("12 long after", x.deadline(0), 5);
        Check.same("13 long after", x.overAt(0), 1);
    }

    private static void overOnesBelowStayAsTheyAre() {
        DeadlineCalls x = new DeadlineCalls();
        x.ask(0, 1);
        x.ask(0, 2);
        x.setWork(2, 20, 0);
        x.call(0, 9);
        x.pass(9);
        Check.same("calls: failed", x.state(0), DeadlineCalls.FAILED);
        Check.same("calls: a done one below stays done", x.state(1), DeadlineCalls.DONE);
        Check.same("calls: at its own time", x.overAt(1), 2);
        for (int c = 2; c < x.calls(); c++) {
            Check.same("calls: a dropped one below stays dropped", x.state(c), DeadlineCalls.DROPPED);
        }
    }
}
