/** What is read of a call in each state, and what becomes of the calls below one that is over. */
final class StatesTest {
    private StatesTest() {
    }

    static void run() {
        queuedCall();
        workingCall();
        askingCall();
        doneCall();
        failedCall();
        lateCall();
        droppedCall();
        cancelledCall();
        doneCancelsBelow();
        failedCancelsBelow();
        cancelledTryCancelsBelow();
        cancelCountsOnlyTheOpenOnes();
        cancelOfARootAlone();
        cancelLeavesTheOver();
        belowCountsEveryLevel();
        belowOfATry();
        belowAfterLongRuns();
        greatestOrigins();
        passCountsRootsOfEachKind();
        passCountsNoRootTwice();
        countsTogether();
        queueOfEachService();
        timeMovesWithPassAlone();
    }

    private static void read(String what, DeadlineCalls x, int call, int state, int overAt, int place) {
        Check.same("10 " + what, x.state(call), state);
        Check.same("13 over, " + what, x.overAt(call), overAt);
        Check.same("14 place, " + what, x.place(call), place);
        Check.same("17 counted, " + what, x.count(x.origin(call) / 1000, state) > 0, true);
    }

    private static void queuedCall() {
        DeadlineCalls x = new DeadlineCalls();
        x.setRoom(1, 1, 1, 0);
        x.call(1, 9);
        x.call(1, 9);
        read("queued", x, 1, 0, -1, -1);
    }

    private static void workingCall() {
        DeadlineCalls x = new DeadlineCalls();
        x.call(1, 9);
        read("working", x, 0, 1, -1, -1);
    }

    private static void askingCall() {
        DeadlineCalls x = new DeadlineCalls();
        x.ask(1, 2);
        x.ask(1, 3);
        x.ask(1, 4);
        x.call(1, 9);
        x.pass(1);
        read("asking the first", x, 0, 2, -1, 0);
        x.pass(1);
        read("asking the second", x, 0, 2, -1, 1);
        x.pass(1);
        read("asking the third", x, 0, 2, -1, 2);
    }

    private static void doneCall() {
        DeadlineCalls x = new DeadlineCalls();
        x.ask(1, 2);
        x.ask(1, 3);
        x.call(1, 9);
        x.pass(3);
        read("done after two places", x, 0, 3, 3, -1);
        read("done without a row", x, 1, 3, 2, -1);
    }

    private static void failedCall() {
        DeadlineCalls x = new DeadlineCalls();
        x.ask(1, 2);
        x.setWork(1, 2, 2);
        x.setWork(2, 20, 0);
        x.call(1, 9);
        x.call(1, 9);
        x.pass(2);
        read("failed with its work", x, 1, 4, 2, -1);
        x.pass(3);
        read("failed for its tries", x, 0, 4, 5, -1);
    }

    private static void lateCall() {
        DeadlineCalls x = new DeadlineCalls();
        x.call(1, 1);
        x.pass(3);
        read("late", x, 0, 5, 1, -1);
    }

    private static void droppedCall() {
        DeadlineCalls x = new DeadlineCalls();
        x.setWork(1, 2, 0);
        x.call(1, 1);
        read("dropped at 0", x, 0, 6, 0, -1);
        x.pass(3);
        x.call(1, 1);
        read("dropped at 3", x, 1, 6, 3, -1);
    }

    private static void cancelledCall() {
        DeadlineCalls x = new DeadlineCalls();
        x.ask(1, 2);
        x.ask(1, 3);
        x.call(1, 9);
        x.cancel(0);
        read("cancelled at 0", x, 0, 7, 0, -1);
        x.call(1, 9);
        x.pass(2);
        x.cancel(1);
        read("cancelled while asking", x, 1, 7, 2, -1);
    }

    /** Root 0 asks 1, by calls 1 and 3 (the second try), and each of these asks 2, by calls 2 and 4. */
    private static DeadlineCalls twoTries() {
        DeadlineCalls x = new DeadlineCalls();
        x.ask(0, 1);
        x.ask(1, 2);
        x.setWork(2, 8, 0);
        x.setRoom(1, 3, 4, 3);
        x.call(0, 40);
        x.pass(6);
        Check.same("two tries and one below each", x.calls(), 5);
        Check.same("the second try's", x.origin(4), 2004);
        return x;
    }

    private static void doneCancelsBelow() {
        DeadlineCalls x = twoTries();
        Check.same("15 four are below", x.below(0), 4);
        Check.same("calls: the root is done", x.pass(4), 1);
        Check.same("calls: at 10", x.overAt(0), 10);
        Check.same("calls: the second try is cancelled", x.state(3), DeadlineCalls.CANCELLED);
        Check.same("calls: and what is below it", x.state(4), DeadlineCalls.CANCELLED);
        Check.same("calls: at once", x.overAt(4), 10);
        Check.same("15 none is below", x.below(0), 0);
        Check.same("15 none is below the second try", x.below(3), 0);
    }

    private static void failedCancelsBelow() {
        DeadlineCalls x = new DeadlineCalls();
        x.ask(0, 1);
        x.ask(1, 2);
        x.ask(2, 3);
        x.setWork(3, 20, 0);
        x.setRoom(1, 2, 4, 3);
        x.setRoom(5, 1, 0, 0);
        x.call(0, 90);
        x.pass(3);
        for (int i = x.calls(); i < 200; i++) {
            x.call(5, 90);
        }
        x.pass(1);
        Check.same("calls: failed for want of calls", x.state(0), DeadlineCalls.FAILED);
        for (int c = 1; c < 4; c++) {
            Check.same("calls: every one below is cancelled", x.state(c), DeadlineCalls.CANCELLED);
            Check.same("calls: at once", x.overAt(c), 4);
        }
        Check.same("calls: a root is not below", x.state(4), DeadlineCalls.DONE);
    }

    private static void cancelledTryCancelsBelow() {
        DeadlineCalls x = twoTries();
        Check.same("6 all five", x.cancel(0), 5);
        for (int c = 0; c < 5; c++) {
            Check.same("6 cancelled", x.state(c), DeadlineCalls.CANCELLED);
            Check.same("6 at the time", x.overAt(c), 6);
            Check.same("15 none is below", x.below(c), 0);
        }
    }

    private static void cancelCountsOnlyTheOpenOnes() {
        DeadlineCalls x = new DeadlineCalls();
        x.ask(0, 1);
        x.ask(0, 2);
        x.setWork(2, 9, 0);
        x.call(0, 40);
        x.pass(2);
        Check.same("6 one below is over", x.state(1), DeadlineCalls.DONE);
        Check.same("6 it and the open one below", x.cancel(0), 2);
        Check.same("6 the one that was over stays so", x.state(1), DeadlineCalls.DONE);
        Check.same("6 at its own time", x.overAt(1), 2);
    }

    private static void cancelOfARootAlone() {
        DeadlineCalls x = new DeadlineCalls();
        x.setRoom(0, 1, 1, 0);
        x.call(0, 9);
        x.call(0, 9);
        Check.same("6 a queued one", x.cancel(1), 1);
        Check.same("6 a working one", x.cancel(0), 1);
        Check.same("6 they count for no pass", x.pass(9), 0);
    }

    private static void cancelLeavesTheOver() {
        DeadlineCalls x = new DeadlineCalls();
        x.setWork(0, 1, 2);
        x.call(0, 9);
        x.call(0, 9);
        x.pass(1);
        x.call(0, 1);
        x.pass(1);
        x.setWork(0, 9, 0);
        x.call(0, 1);
        int[] due = {DeadlineCalls.DONE, DeadlineCalls.FAILED, DeadlineCalls.LATE, DeadlineCalls.DROPPED};
        for (int i = 0; i < due.length; i++) {
            int call = i;
            Check.notNow("6 one that is over in state " + due[i], () -> x.cancel(call));
            Check.same("6 it stays so", x.state(call), due[i]);
        }
        int last = x.call(0, 20);
        x.cancel(last);
        Check.notNow("6 one that is cancelled", () -> x.cancel(last));
    }

    private static void belowCountsEveryLevel() {
        DeadlineCalls x = new DeadlineCalls();
        for (int s = 0; s < 5; s++) {
            x.ask(s, s + 1);
        }
        x.setWork(5, 20, 0);
        x.call(0, 90);
        x.pass(5);
        for (int c = 0; c < 6; c++) {
            Check.same("15 below the call of service " + c, x.below(c), 5 - c);
        }
        Check.same("15 a queued root is not below", x.below(x.call(5, 90)), 0);
        Check.same("15 nor does it count for others", x.below(0), 5);
        x.pass(20);
        Check.same("15 all are over", x.below(0), 0);
    }

    private static void belowOfATry() {
        DeadlineCalls x = twoTries();
        Check.same("15 below the first try", x.below(1), 1);
        Check.same("15 below the second try", x.below(3), 1);
        Check.same("15 below the last ones", x.below(2) + x.below(4), 0);
    }

    private static void belowAfterLongRuns() {
        DeadlineCalls x = new DeadlineCalls();
        for (int i = 0; i < 50; i++) {
            x.call(5, 9);
            x.pass(1);
        }
        x.ask(0, 1);
        x.setWork(1, 9, 0);
        int root = x.call(0, 40);
        x.pass(1);
        Check.same("15 below, with many ahead that are over", x.below(root), 1);
        Check.same("15 below one of those", x.below(0), 0);
        Check.same("15 below the last of those", x.below(49), 0);
        Check.same("11 its try", x.origin(root + 1), 1000 + root + 1);
        Check.same("6 both are cancelled", x.cancel(root), 2);
        x.pass(1);
        Check.same("5 a call after all were over", x.state(x.call(0, 40)), DeadlineCalls.WORKING);
        x.pass(1);
        Check.same("5 it goes on as any other", x.below(root + 2), 1);
    }

    private static void greatestOrigins() {
        DeadlineCalls x = new DeadlineCalls();
        x.ask(4, 5);
        x.setRoom(0, 1, 0, 0);
        for (int i = 0; i < 198; i++) {
            x.call(0, 90);
        }
        x.call(4, 90);
        x.pass(1);
        Check.same("11 a root of service 0 is 0", x.origin(0), 0);
        Check.same("11 a root of service 4", x.origin(198), 4000);
        Check.same("11 the greatest: of service 5, made by 198", x.origin(199), 5199);
        DeadlineCalls y = new DeadlineCalls();
        y.ask(0, 1);
        y.call(0, 90);
        y.pass(1);
        Check.same("11 made by 0", y.origin(1), 1001);
    }

    private static void passCountsRootsOfEachKind() {
        DeadlineCalls x = new DeadlineCalls();
        x.setRoom(0, 1, 3, 0);
        x.setWork(0, 4, 0);
        x.call(0, 9);
        x.call(0, 5);
        x.call(0, 4);
        x.setWork(1, 4, 1);
        x.call(1, 9);
        Check.same("7 none in the ticks ahead", x.pass(3), 0);
        Check.same("7 one done, one dropped, one late, one failed", x.pass(1), 4);
        int[] due = {DeadlineCalls.DONE, DeadlineCalls.DROPPED, DeadlineCalls.LATE, DeadlineCalls.FAILED};
        for (int c = 0; c < due.length; c++) {
            Check.same("7 root " + c, x.state(c), due[c]);
        }
    }

    private static void passCountsNoRootTwice() {
        DeadlineCalls x = new DeadlineCalls();
        x.ask(0, 1);
        x.setWork(0, 3, 0);
        x.call(0, 30);
        x.call(1, 30);
        x.call(2, 30);
        Check.same("7 the two roots without a row", x.pass(3), 2);
        Check.same("7 the third root, its try does not count", x.pass(1), 1);
        Check.same("7 no more", x.pass(100), 0);
        x.setRoom(0, 1, 0, 0);
        x.call(0, 30);
        x.call(0, 30);
        x.cancel(4);
        Check.same("7 neither the cancelled nor the dropped one ahead of it", x.pass(100), 0);
    }

    private static void countsTogether() {
        DeadlineCalls x = new DeadlineCalls();
        x.ask(0, 1);
        x.setWork(1, 3, 2);
        x.setRoom(1, 1, 1, 2);
        for (int i = 0; i < 6; i++) {
            x.call(0, 12);
        }
        for (int tick = 0; tick < 15; tick++) {
            x.pass(1);
            int all = 0;
            for (int state = 0; state < 8; state++) {
                all += x.count(0, state) + x.count(1, state);
            }
            Check.same("17 each call is counted once at " + x.time(), all, x.calls());
        }
    }

    private static void queueOfEachService() {
        DeadlineCalls x = new DeadlineCalls();
        for (int s = 0; s < 6; s++) {
            x.setRoom(s, 1, 1, 0);
            x.call(s, 50);
            x.call(s, 50);
        }
        for (int s = 0; s < 6; s++) {
            int service = s;
            Check.same("16 the only one of service " + s, x.queuedAt(s, 0), 2 * s + 1);
            Check.noSuch("16 just one, place 1 of " + s, () -> x.queuedAt(service, 1));
            Check.noSuch("16 place -1 of " + s, () -> x.queuedAt(service, -1));
        }
    }

    private static void timeMovesWithPassAlone() {
        DeadlineCalls x = new DeadlineCalls();
        Check.same("8 0 at first", x.time(), 0);
        x.call(0, 9);
        x.setWork(0, 2, 0);
        x.cancel(0);
        Check.same("8 no other call lets ticks pass", x.time(), 0);
        x.pass(1);
        Check.same("8 one tick", x.time(), 1);
        x.pass(100);
        Check.same("8 a hundred more", x.time(), 101);
    }
}
