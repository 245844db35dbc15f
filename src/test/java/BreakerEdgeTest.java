/** Breakers: just closed and just open, and what comes in the tick in which one opens or closes. */
final class BreakerEdgeTest {
    private BreakerEdgeTest() {
    }

    static void run() {
        closedAtFirst();
        twoAndThree();
        lateAndFailedTogether();
        lateCallThatAsks();
        fourInOneTick();
        sixInOneTick();
        doneBetween();
        doneAheadInTheTick();
        doneBehindInTheTick();
        thirdAheadOfDoneInTheTick();
        lateIsAheadOfDone();
        failedIsAheadOfStepThree();
        doneInStepThreeSetsBack();
        askingDoesNotSetBack();
        failedInStepThreeLeavesTheCount();
        countOfTheTimeWhileOpen();
        doneWhileOpen();
        cancelledLeavesTheCount();
        droppedLeavesTheCount();
        droppedForWantOfRoomLeavesTheCount();
        droppedFromTheQueueLeavesTheCount();
        doneWithFiftyTokensSetsBack();
        refusedLeavesTheCount();
        failedForWantOfCallsLeavesTheCount();
        rootsAroundTheEnd();
        triesAroundTheEnd();
        tryOfTheTickInWhichItOpens();
        queuedOnesWhileOpen();
        otherServicesGoOn();
        opensAgainAfterTheEnd();
    }

    private static void fail(DeadlineCalls x, int service, int times) {
        for (int i = 0; i < times; i++) {
            x.setWork(service, 1, 1);
            x.call(service, 9);
            x.pass(1);
        }
        x.setWork(service, 1, 0);
    }

    /** A breaker that a third failure opened at 3: it is open until 22, and not at 23. */
    private static DeadlineCalls openedAtThree(int service) {
        DeadlineCalls x = new DeadlineCalls();
        fail(x, service, 3);
        return x;
    }

    private static void closedAtFirst() {
        for (int s = 0; s < 6; s++) {
            Check.same("19 not open at first", new DeadlineCalls().isOpen(s), false);
        }
    }

    private static void twoAndThree() {
        for (int s = 0; s < 6; s++) {
            DeadlineCalls x = new DeadlineCalls();
            fail(x, s, 2);
            Check.same("breaker: two do not open it", x.isOpen(s), false);
            Check.same("breaker: a call begins", x.state(x.call(s, 1)), DeadlineCalls.WORKING);
            fail(x, s, 1);
            Check.same("breaker: the third, with a late one between, is enough", x.isOpen(s), true);
        }
    }

    private static void lateAndFailedTogether() {
        DeadlineCalls x = new DeadlineCalls();
        x.call(0, 1);
        x.pass(1);
        fail(x, 0, 1);
        x.call(0, 1);
        Check.same("breaker: one late, one failed", x.isOpen(0), false);
        x.pass(1);
        Check.same("breaker: and one more late", x.isOpen(0), true);
    }

    private static void lateCallThatAsks() {
        DeadlineCalls x = new DeadlineCalls();
        x.ask(0, 1);
        x.setWork(1, 9, 0);
        x.setRoom(0, 3, 4, 0);
        x.setRoom(1, 3, 4, 0);
        x.call(0, 11);
        x.call(0, 11);
        x.call(0, 11);
        x.pass(10);
        Check.same("breaker: the tries are late, of their own service", x.isOpen(1), true);
        Check.same("breaker: not their parents", x.isOpen(0), false);
        x.pass(1);
        Check.same("breaker: two of the parents are late, the first was failed", x.count(0, DeadlineCalls.LATE), 2);
        Check.same("breaker: so it is not open", x.isOpen(0), false);
        x.call(0, 1);
        x.pass(1);
        Check.same("breaker: with a third late one it is", x.isOpen(0), true);
    }

    private static void fourInOneTick() {
        DeadlineCalls x = new DeadlineCalls();
        x.setRoom(0, 4, 0, 0);
        x.setWork(0, 1, 1);
        for (int i = 0; i < 4; i++) {
            x.call(0, 9);
        }
        x.pass(1);
        Check.same("breaker: open", x.isOpen(0), true);
        x.pass(20);
        Check.same("breaker: closed", x.isOpen(0), false);
        fail(x, 0, 1);
        Check.same("breaker: the fourth counts for the next", x.isOpen(0), false);
        fail(x, 0, 1);
        Check.same("breaker: so two more are enough", x.isOpen(0), true);
    }

    private static void sixInOneTick() {
        DeadlineCalls x = new DeadlineCalls();
        x.setRoom(0, 5, 1, 0);
        x.setWork(0, 1, 0);
        for (int i = 0; i < 6; i++) {
            x.call(0, 1);
        }
        x.pass(1);
        Check.same("breaker: six late ones", x.count(0, DeadlineCalls.LATE), 6);
        x.pass(20);
        Check.same("breaker: twice open is not twice as long", x.isOpen(0), false);
        fail(x, 0, 2);
        Check.same("breaker: the count is 0 with the sixth", x.isOpen(0), false);
        fail(x, 0, 1);
        Check.same("breaker: three more", x.isOpen(0), true);
    }

    private static void doOne(DeadlineCalls x, int service) {
        x.setWork(service, 1, 0);
        x.call(service, 9);
        x.pass(1);
    }

    private static void doneBetween() {
        DeadlineCalls x = new DeadlineCalls();
        fail(x, 0, 1);
        doOne(x, 0);
        fail(x, 0, 2);
        Check.same("breaker: one, done, two", x.isOpen(0), false);
        doOne(x, 0);
        fail(x, 0, 2);
        Check.same("breaker: two, done, two", x.isOpen(0), false);
        doOne(x, 1);
        fail(x, 0, 1);
        Check.same("breaker: done ones of another service do not count", x.isOpen(0), true);
    }

    private static void doneAheadInTheTick() {
        DeadlineCalls x = new DeadlineCalls();
        fail(x, 0, 2);
        x.setWork(0, 1, 2);
        x.call(0, 9);
        x.call(0, 9);
        x.pass(1);
        Check.same("step 2 the second is failed", x.state(3), DeadlineCalls.FAILED);
        Check.same("step 2 by rising numbers: done, then failed", x.isOpen(0), false);
        fail(x, 0, 1);
        Check.same("breaker: two after the done one", x.isOpen(0), false);
        fail(x, 0, 1);
        Check.same("breaker: three after the done one", x.isOpen(0), true);
    }

    private static void doneBehindInTheTick() {
        DeadlineCalls x = new DeadlineCalls();
        fail(x, 0, 1);
        x.setRoom(0, 3, 4, 0);
        x.setWork(0, 1, 2);
        doneThenFailedThenDone(x);
        Check.same("step 2 failed, then done: the count is 0", x.isOpen(0), false);
        fail(x, 0, 2);
        Check.same("breaker: two are not enough then", x.isOpen(0), false);
        fail(x, 0, 1);
        Check.same("breaker: three are", x.isOpen(0), true);
    }

    private static void thirdAheadOfDoneInTheTick() {
        // The first work is done; two late ones are no works, so the second work is the next one.
        DeadlineCalls x = new DeadlineCalls();
        x.setWork(0, 1, 2);
        x.call(0, 9);
        x.pass(1);
        x.call(0, 1);
        x.call(0, 1);
        x.pass(1);
        Check.same("breaker: two late ones", x.isOpen(0), false);
        x.call(0, 9);
        x.call(0, 9);
        x.pass(1);
        Check.same("step 2 by rising numbers: failed, the third", x.state(3), DeadlineCalls.FAILED);
        Check.same("step 2 then one is done", x.state(4), DeadlineCalls.DONE);
        Check.same("breaker: which does not close it", x.isOpen(0), true);
        x.pass(20);
        fail(x, 0, 2);
        Check.same("breaker: the count was 0", x.isOpen(0), false);
    }

    private static void doneThenFailedThenDone(DeadlineCalls x) {
        int first = x.call(0, 9);
        x.call(0, 9);
        x.call(0, 9);
        x.pass(1);
        Check.same("step 2 the first work", x.state(first), DeadlineCalls.DONE);
        Check.same("step 2 the second work", x.state(first + 1), DeadlineCalls.FAILED);
        Check.same("step 2 the third work", x.state(first + 2), DeadlineCalls.DONE);
    }

    private static void lateIsAheadOfDone() {
        DeadlineCalls x = new DeadlineCalls();
        fail(x, 0, 2);
        x.call(0, 9);
        x.call(0, 1);
        x.pass(1);
        Check.same("step 2 one is done", x.state(2), DeadlineCalls.DONE);
        Check.same("step 1 the late one was the third, ahead of that", x.isOpen(0), true);
    }

    private static void failedIsAheadOfStepThree() {
        // A call that asks is done in step 3 of the tick in which another one is failed in step 2.
        DeadlineCalls x = new DeadlineCalls();
        fail(x, 0, 2);
        x.ask(0, 1);
        x.setRoom(0, 2, 4, 0);
        x.setWork(1, 2, 0);
        x.call(0, 9);
        x.pass(2);
        x.setWork(0, 1, 1);
        x.call(0, 9);
        x.pass(1);
        Check.same("step 3 the first is done", x.state(2), DeadlineCalls.DONE);
        Check.same("step 2 the failed one was the third, ahead of that", x.isOpen(0), true);
    }

    private static void doneInStepThreeSetsBack() {
        DeadlineCalls x = new DeadlineCalls();
        fail(x, 0, 2);
        x.ask(0, 1);
        x.call(0, 9);
        x.pass(2);
        Check.same("breaker: done in step 3", x.state(2), DeadlineCalls.DONE);
        fail(x, 0, 2);
        Check.same("breaker: so the count was 0", x.isOpen(0), false);
        fail(x, 0, 1);
        Check.same("breaker: three more", x.isOpen(0), true);
    }

    private static void askingDoesNotSetBack() {
        DeadlineCalls x = new DeadlineCalls();
        fail(x, 0, 2);
        x.ask(0, 1);
        x.setWork(1, 5, 0);
        x.call(0, 9);
        x.pass(1);
        Check.same("breaker: its work was ready, and it asks", x.state(2), DeadlineCalls.ASKING);
        fail(x, 0, 1);
        Check.same("breaker: that is not done, and sets nothing back", x.isOpen(0), true);
    }

    private static void failedInStepThreeLeavesTheCount() {
        DeadlineCalls x = new DeadlineCalls();
        fail(x, 0, 2);
        x.ask(0, 1);
        x.setWork(1, 20, 0);
        x.call(0, 9);
        x.pass(4);
        Check.same("step 3 failed", x.state(2), DeadlineCalls.FAILED);
        Check.same("breaker: that does not count", x.isOpen(0), false);
        fail(x, 0, 1);
        Check.same("breaker: nor does it set back", x.isOpen(0), true);
    }

    private static void countOfTheTimeWhileOpen() {
        DeadlineCalls x = new DeadlineCalls();
        x.setRoom(0, 5, 4, 0);
        x.setWork(0, 1, 1);
        for (int i = 0; i < 5; i++) {
            x.call(0, i < 3 ? 9 : 1);
        }
        x.pass(1);
        Check.same("breaker: two late, then the first failed is the third", x.isOpen(0), true);
        x.call(0, 9);
        x.pass(20);
        Check.same("breaker: closed at 21", x.isOpen(0), false);
        fail(x, 0, 1);
        Check.same("breaker: two counted after it opened, refused ones leave them, and one more", x.isOpen(0), true);
    }

    private static void doneWhileOpen() {
        DeadlineCalls x = new DeadlineCalls();
        x.setWork(0, 5, 0);
        x.call(0, 90);
        x.setWork(0, 1, 1);
        x.setRoom(0, 4, 4, 0);
        x.call(0, 9);
        x.call(0, 9);
        x.call(0, 9);
        x.pass(1);
        Check.same("breaker: open at 1", x.isOpen(0), true);
        x.setWork(0, 1, 0);
        Check.same("breaker: one that worked is done", x.pass(4), 1);
        Check.same("breaker: a done one does not close it", x.isOpen(0), true);
        x.pass(15);
        Check.same("breaker: open at 20", x.isOpen(0), true);
        x.pass(1);
        Check.same("breaker: not at 21", x.isOpen(0), false);
    }

    private static void cancelledLeavesTheCount() {
        DeadlineCalls x = new DeadlineCalls();
        fail(x, 0, 2);
        x.cancel(x.call(0, 9));
        Check.same("breaker: a cancelled one does not count", x.isOpen(0), false);
        fail(x, 0, 1);
        Check.same("breaker: nor does it set back", x.isOpen(0), true);
    }

    private static void droppedLeavesTheCount() {
        DeadlineCalls x = new DeadlineCalls();
        fail(x, 0, 2);
        x.setWork(0, 9, 0);
        Check.same("breaker: dropped for its deadline", x.state(x.call(0, 8)), DeadlineCalls.DROPPED);
        Check.same("breaker: a dropped one does not count", x.isOpen(0), false);
        fail(x, 0, 1);
        Check.same("breaker: nor does it set back", x.isOpen(0), true);
    }

    private static void droppedForWantOfRoomLeavesTheCount() {
        DeadlineCalls x = new DeadlineCalls();
        fail(x, 0, 2);
        x.setRoom(0, 1, 0, 0);
        x.setWork(0, 2, 1);
        x.call(0, 9);
        Check.same("breaker: dropped for want of room", x.state(x.call(0, 9)), DeadlineCalls.DROPPED);
        Check.same("breaker: such a one does not count", x.isOpen(0), false);
        x.pass(2);
        Check.same("breaker: nor does it set back", x.isOpen(0), true);
    }

    private static void droppedFromTheQueueLeavesTheCount() {
        DeadlineCalls x = new DeadlineCalls();
        fail(x, 0, 1);
        x.setRoom(0, 1, 8, 0);
        x.setWork(0, 3, 1);
        x.call(0, 9);
        int dropped = x.call(0, 5);
        x.call(0, 9);
        x.pass(3);
        Check.same("step 5 dropped", x.state(dropped), DeadlineCalls.DROPPED);
        Check.same("breaker: two failed, one dropped from the queue", x.isOpen(0), false);
        x.pass(3);
        Check.same("breaker: that set nothing back", x.isOpen(0), true);
    }

    private static void doneWithFiftyTokensSetsBack() {
        DeadlineCalls x = new DeadlineCalls();
        for (int i = 0; i < 30; i++) {
            doOne(x, 0);
        }
        Check.same("tokens: 50", x.tokens(0), 50);
        fail(x, 0, 2);
        doOne(x, 0);
        fail(x, 0, 2);
        Check.same("breaker: a done one sets back without a token more", x.isOpen(0), false);
    }

    private static void refusedLeavesTheCount() {
        DeadlineCalls x = openedAtThree(0);
        for (int i = 0; i < 5; i++) {
            x.call(0, 9);
        }
        x.pass(20);
        fail(x, 0, 2);
        Check.same("breaker: refused ones do not count", x.isOpen(0), false);
        fail(x, 0, 1);
        Check.same("breaker: three are needed", x.isOpen(0), true);
    }

    private static void failedForWantOfCallsLeavesTheCount() {
        DeadlineCalls x = new DeadlineCalls();
        fail(x, 0, 2);
        x.ask(0, 1);
        x.setRoom(0, 5, 4, 0);
        x.setRoom(5, 1, 0, 0);
        for (int i = 0; i < 4; i++) {
            x.call(0, 90);
        }
        x.setWork(0, 3, 0);
        x.call(0, 90);
        for (int i = 7; i < 200; i++) {
            x.call(5, 90);
        }
        x.pass(1);
        Check.same("step 4 four are failed", x.count(0, DeadlineCalls.FAILED), 6);
        Check.same("breaker: step 4 does not count", x.isOpen(0), false);
        x.setWork(0, 3, 1);
        x.pass(2);
        Check.same("step 2 one is failed", x.state(6), DeadlineCalls.FAILED);
        Check.same("breaker: step 4 did not set back", x.isOpen(0), true);
    }

    private static void rootsAroundTheEnd() {
        DeadlineCalls x = openedAtThree(4);
        Check.same("19 open in the tick of the third", x.isOpen(4), true);
        Check.same("breaker: a root is failed then", x.state(x.call(4, 9)), DeadlineCalls.FAILED);
        x.pass(19);
        Check.same("8 the time is 22", x.time(), 22);
        Check.same("19 open at 22", x.isOpen(4), true);
        int last = x.call(4, 9);
        Check.same("breaker: a root is failed at 22", x.state(last), DeadlineCalls.FAILED);
        Check.same("13 over at 22", x.overAt(last), 22);
        x.pass(1);
        Check.same("19 not open at 23", x.isOpen(4), false);
        Check.same("breaker: a root begins at 23", x.state(x.call(4, 9)), DeadlineCalls.WORKING);
    }

    private static void triesAroundTheEnd() {
        DeadlineCalls x = openedAtThree(1);
        x.ask(0, 1);
        x.pass(18);
        int root = x.call(0, 50);
        x.pass(1);
        Check.same("step 4 at 22 a try is failed", x.state(root + 1), DeadlineCalls.FAILED);
        x.pass(1);
        Check.same("step 4 at 23 a try begins", x.state(root + 2), DeadlineCalls.WORKING);
    }

    private static void tryOfTheTickInWhichItOpens() {
        DeadlineCalls x = new DeadlineCalls();
        x.ask(0, 1);
        fail(x, 1, 2);
        x.setWork(1, 1, 1);
        x.call(1, 9);
        int root = x.call(0, 50);
        x.pass(1);
        Check.same("step 4 a try after the third failure is failed", x.state(root + 1), DeadlineCalls.FAILED);
        DeadlineCalls y = new DeadlineCalls();
        y.ask(0, 1);
        fail(y, 1, 2);
        y.call(1, 1);
        int other = y.call(0, 50);
        y.pass(1);
        Check.same("step 4 a try after the third late one too", y.state(other + 1), DeadlineCalls.FAILED);
    }

    private static void queuedOnesWhileOpen() {
        DeadlineCalls x = new DeadlineCalls();
        x.setRoom(0, 3, 3, 0);
        x.setWork(0, 2, 1);
        for (int i = 0; i < 3; i++) {
            x.call(0, 90);
        }
        x.call(0, 90);
        x.call(0, 3);
        x.call(0, 90);
        x.pass(2);
        Check.same("breaker: open", x.isOpen(0), true);
        Check.same("step 5 the breaker is not asked", x.state(3), DeadlineCalls.WORKING);
        Check.same("step 5 one without time is dropped, not failed", x.state(4), DeadlineCalls.DROPPED);
        Check.same("step 5 nor for the last", x.state(5), DeadlineCalls.WORKING);
    }

    private static void otherServicesGoOn() {
        DeadlineCalls x = openedAtThree(3);
        for (int s = 0; s < 6; s++) {
            Check.same("breaker: of service 3 alone", x.isOpen(s), s == 3);
            int due = s == 3 ? DeadlineCalls.FAILED : DeadlineCalls.WORKING;
            Check.same("breaker: a call of service " + s, x.state(x.call(s, 9)), due);
        }
    }

    private static void opensAgainAfterTheEnd() {
        DeadlineCalls x = openedAtThree(0);
        x.pass(20);
        fail(x, 0, 2);
        Check.same("breaker: two after the end", x.isOpen(0), false);
        fail(x, 0, 1);
        Check.same("breaker: three after the end, at 26", x.isOpen(0), true);
        x.pass(19);
        Check.same("breaker: open at 45", x.isOpen(0), true);
        x.pass(1);
        Check.same("breaker: not at 46", x.isOpen(0), false);
    }
}
