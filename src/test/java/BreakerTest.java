/** Breakers: what they count, when they open, and for how long. */
final class BreakerTest {
    private BreakerTest() {
    }

    static void run() {
        opensWithTheThird();
        doneSetsBack();
        lateCounts();
        refusedAndDroppedDoNotCount();
        countsWhileOpen();
        failedInStepThreeDoesNotCount();
    }

    private static int failOnce(DeadlineCalls x, int service) {
        x.setWork(service, 1, 1);
        int c = x.call(service, 9);
        x.pass(1);
        return x.state(c);
    }

    private static int doOnce(DeadlineCalls x, int service) {
        x.setWork(service, 1, 0);
        int c = x.call(service, 9);
        x.pass(1);
        return x.state(c);
    }

    private static void opensWithTheThird() {
        DeadlineCalls x = new DeadlineCalls();
        failOnce(x, 2);
        failOnce(x, 2);
        Check.same("two do not open it", x.isOpen(2), false);
        failOnce(x, 2);
        Check.same("the third opens it", x.isOpen(2), true);
        Check.same("of that service alone", x.isOpen(1), false);
        x.setWork(2, 1, 0);
        int refused = x.call(2, 9);
        Check.same("a call is failed", x.state(refused), DeadlineCalls.FAILED);
        Check.same("at once", x.overAt(refused), 3);
        int withoutTime = x.call(2, 1);
        x.setWork(2, 9, 0);
        Check.same("failed, not dropped", x.state(withoutTime), DeadlineCalls.FAILED);
        x.pass(19);
        Check.same("open at 22", x.isOpen(2), true);
        x.pass(1);
        Check.same("not open at 23", x.isOpen(2), false);
        x.setWork(2, 1, 1);
        Check.same("a call begins", x.state(x.call(2, 9)), DeadlineCalls.WORKING);
        x.pass(1);
        failOnce(x, 2);
        Check.same("the count was 0", x.isOpen(2), false);
        failOnce(x, 2);
        Check.same("the third opens it again", x.isOpen(2), true);
    }

    private static void doneSetsBack() {
        DeadlineCalls x = new DeadlineCalls();
        failOnce(x, 0);
        failOnce(x, 0);
        Check.same("done", doOnce(x, 0), DeadlineCalls.DONE);
        failOnce(x, 0);
        failOnce(x, 0);
        Check.same("not three one after the other", x.isOpen(0), false);
        Check.same("failed", failOnce(x, 0), DeadlineCalls.FAILED);
        Check.same("now three", x.isOpen(0), true);
    }

    private static void lateCounts() {
        DeadlineCalls x = new DeadlineCalls();
        x.setRoom(0, 1, 2, 0);
        x.setWork(0, 4, 0);
        x.call(0, 4);
        x.call(0, 4);
        x.call(0, 4);
        x.pass(3);
        Check.same("none late yet", x.isOpen(0), false);
        x.pass(1);
        Check.same("three late ones, queued ones too", x.isOpen(0), true);
    }

    private static void refusedAndDroppedDoNotCount() {
        DeadlineCalls x = new DeadlineCalls();
        failOnce(x, 0);
        failOnce(x, 0);
        x.setWork(0, 9, 0);
        for (int i = 0; i < 4; i++) {
            Check.same("dropped", x.state(x.call(0, 8)), DeadlineCalls.DROPPED);
        }
        x.cancel(x.call(0, 9));
        Check.same("neither dropped nor cancelled ones count", x.isOpen(0), false);
        failOnce(x, 0);
        Check.same("opened at 3", x.isOpen(0), true);
        for (int i = 0; i < 4; i++) {
            Check.same("refused", x.state(x.call(0, 8)), DeadlineCalls.FAILED);
        }
        x.pass(19);
        Check.same("refused ones do not make it longer", x.isOpen(0), true);
        x.pass(1);
        Check.same("closed at 23", x.isOpen(0), false);
        failOnce(x, 0);
        Check.same("they did not count for the next", x.isOpen(0), false);
    }

    private static void countsWhileOpen() {
        DeadlineCalls x = new DeadlineCalls();
        x.setRoom(0, 3, 8, 0);
        x.setWork(0, 3, 1);
        for (int i = 0; i < 6; i++) {
            x.call(0, 50);
        }
        x.pass(3);
        Check.same("open from 3 on", x.isOpen(0), true);
        x.pass(3);
        Check.same("three more at 6", x.count(0, DeadlineCalls.FAILED), 6);
        x.pass(17);
        Check.same("so it is open at 23", x.isOpen(0), true);
        x.pass(2);
        Check.same("and at 25", x.isOpen(0), true);
        x.pass(1);
        Check.same("not at 26", x.isOpen(0), false);
    }

    private static void failedInStepThreeDoesNotCount() {
        DeadlineCalls x = new DeadlineCalls();
        x.ask(0, 1);
        x.setWork(1, 20, 0);
        for (int i = 0; i < 3; i++) {
            // The try has too little time and is dropped, and again, as long as there are tokens.
            int c = x.call(0, 10);
            x.pass(5);
            Check.same("failed for want of an answer", x.state(c), DeadlineCalls.FAILED);
        }
        Check.same("the breaker does not count these", x.isOpen(0), false);
    }
}
