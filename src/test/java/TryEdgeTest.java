/** Steps 3 and 4 at their edges: patience just reached, tries again at most, answers that come together. */
final class TryEdgeTest {
    private TryEdgeTest() {
    }

    static void run() {
        nothingIsJudgedBeforeTheFirstTry();
        againOnceTwiceAndNoMore();
        againIsCountedForEachPlace();
        againForEachCallApart();
        doneAtThePatience();
        overAtThePatience();
        patienceFromWhenItWasMade();
        patienceGoesOnThroughTheQueue();
        patienceMadeShorter();
        patienceMadeLonger();
        patienceTakenAway();
        patienceGivenLater();
        patienceOfTheServiceThatIsAsked();
        noThirdTry();
        noSecondTryAfterOneAgain();
        oneOfTwoIsOver();
        bothOfTwoAreOver();
        secondAnswersFirst();
        bothAnswerTogether();
        secondFailsAndFirstAnswers();
        secondTryForEachPlace();
        overByThenMakesNone();
        cancelledByTheRootMakesNone();
        cancelledTryFreesItsWorker();
        cancelledTryLeavesTheQueue();
        askingHoldsNoWorker();
        triesByRisingNumbers();
        triesOfOneTickTakeTheWorkersInOrder();
        wholeRowInItsTicks();
        failureGoesUpInOneTick();
        sameServiceThreeTimes();
    }

    /** Service 0 asks 1; a call of 1 works so long, and fails each so many. */
    private static DeadlineCalls asking(int work, int each, int patience) {
        DeadlineCalls x = new DeadlineCalls();
        x.ask(0, 1);
        x.setWork(1, work, each);
        x.setRoom(1, 5, 8, patience);
        return x;
    }

    private static void giveTokens(DeadlineCalls x, int service, int more) {
        for (int i = 0; i < more; i++) {
            x.call(service, 9);
            x.pass(1);
        }
    }

    private static void nothingIsJudgedBeforeTheFirstTry() {
        DeadlineCalls x = asking(9, 0, 1);
        x.call(0, 50);
        x.pass(1);
        Check.same("step 3 one that wants a try is not looked at", x.tokens(1), 20);
        Check.same("step 4 it makes one try", x.calls(), 2);
        Check.same("step 4 as it comes to ask", x.state(0), DeadlineCalls.ASKING);
    }

    private static void againOnceTwiceAndNoMore() {
        DeadlineCalls x = new DeadlineCalls();
        x.ask(0, 1);
        giveTokens(x, 1, 30);
        x.setWork(1, 1, 1);
        int root = x.call(0, 50);
        int[] tokens = {50, 40, 30};
        for (int i = 0; i < 3; i++) {
            Check.same("step 3 not over with " + i + " tries again", x.pass(1), 0);
            Check.same("step 3 so many tries", x.calls(), root + 2 + i);
            Check.same("step 3 so many tokens", x.tokens(1), tokens[i]);
        }
        Check.same("step 3 no third time again", x.pass(1), 1);
        Check.same("step 3 failed, with tokens enough", x.state(root), DeadlineCalls.FAILED);
        Check.same("step 3 these are left", x.tokens(1), 30);
        Check.same("step 3 three tries in all", x.calls(), root + 4);
    }

    private static void againIsCountedForEachPlace() {
        DeadlineCalls x = new DeadlineCalls();
        x.ask(0, 1);
        x.ask(0, 1);
        giveTokens(x, 1, 30);
        x.setWork(1, 1, 1);
        int root = x.call(0, 90);
        x.pass(3);
        Check.same("step 3 two tries again at place 0", x.tokens(1), 30);
        x.setWork(1, 1, 0);
        x.pass(1);
        Check.same("step 3 place 1", x.place(root), 1);
        x.setWork(1, 1, 1);
        x.pass(2);
        Check.same("step 3 two tries again at place 1, after one token more", x.tokens(1), 11);
        Check.same("step 3 asking still", x.state(root), DeadlineCalls.ASKING);
        x.setWork(1, 1, 0);
        Check.same("step 3 the sixth try is done", x.pass(1), 1);
        Check.same("step 3 done", x.state(root), DeadlineCalls.DONE);
    }

    private static void againForEachCallApart() {
        DeadlineCalls x = asking(1, 0, 0);
        x.setRoom(0, 2, 4, 0);
        giveTokens(x, 1, 30);
        x.setWork(1, 1, 1);
        int first = x.call(0, 90);
        int second = x.call(0, 90);
        x.setRoom(1, 1, 0, 0);
        x.pass(3);
        Check.same("step 3 each of the two again twice", x.tokens(1), 10);
        Check.same("step 3 the first asks", x.state(first), DeadlineCalls.ASKING);
        Check.same("step 3 the second asks", x.state(second), DeadlineCalls.ASKING);
        Check.same("step 3 then both are failed", x.pass(1), 2);
    }

    private static void doneAtThePatience() {
        DeadlineCalls x = asking(3, 0, 3);
        x.call(0, 50);
        Check.same("step 3 done when the patience is at its end", x.pass(4), 1);
        Check.same("step 3 no second try", x.calls(), 2);
    }

    private static void overAtThePatience() {
        DeadlineCalls x = asking(3, 1, 3);
        x.call(0, 50);
        x.pass(4);
        Check.same("step 3 over when the patience is at its end: again", x.calls(), 3);
        Check.same("step 3 for 10 tokens", x.tokens(1), 10);
    }

    private static void patienceFromWhenItWasMade() {
        DeadlineCalls x = asking(9, 0, 4);
        x.setRoom(1, 1, 8, 4);
        x.call(1, 50);
        x.call(0, 50);
        x.pass(4);
        Check.same("step 3 the try is queued for 3 ticks", x.state(2), DeadlineCalls.QUEUED);
        Check.same("step 3 it is the only one", x.calls(), 3);
        x.pass(1);
        Check.same("step 3 4 ticks after it was made, not after it began to work", x.calls(), 4);
        Check.same("step 4 the second one is queued too", x.queuedAt(1, 1), 3);
    }

    private static void patienceGoesOnThroughTheQueue() {
        DeadlineCalls x = asking(3, 0, 4);
        x.setRoom(1, 1, 8, 4);
        x.call(1, 50);
        x.call(0, 50);
        x.pass(3);
        Check.same("step 5 the try works 2 ticks after it was made", x.state(2), DeadlineCalls.WORKING);
        x.setWork(1, 9, 0);
        x.pass(1);
        Check.same("step 3 3 ticks after it was made", x.calls(), 3);
        x.pass(1);
        Check.same("step 3 4 ticks after it was made: a second one", x.calls(), 4);
    }

    private static void patienceMadeShorter() {
        DeadlineCalls x = asking(9, 0, 6);
        x.call(0, 50);
        x.pass(5);
        Check.same("step 3 4 ticks ago are too few for 6", x.calls(), 2);
        x.setRoom(1, 5, 8, 2);
        x.pass(1);
        Check.same("step 3 5 ticks ago are more than 2", x.calls(), 3);
    }

    private static void patienceMadeLonger() {
        DeadlineCalls x = asking(20, 0, 4);
        x.call(0, 50);
        x.pass(4);
        x.setRoom(1, 5, 8, 5);
        x.pass(1);
        Check.same("step 3 4 ticks ago are too few for 5", x.calls(), 2);
        x.pass(1);
        Check.same("step 3 5 are enough", x.calls(), 3);
    }

    private static void patienceTakenAway() {
        DeadlineCalls x = asking(20, 0, 2);
        x.call(0, 50);
        x.pass(2);
        x.setRoom(1, 5, 8, 0);
        x.pass(10);
        Check.same("step 3 a patience of 0 is none", x.calls(), 2);
    }

    private static void patienceGivenLater() {
        DeadlineCalls x = asking(20, 0, 0);
        x.call(0, 50);
        x.pass(10);
        x.setRoom(1, 5, 8, 1);
        x.pass(1);
        Check.same("step 3 with a patience above 0", x.calls(), 3);
    }

    private static void patienceOfTheServiceThatIsAsked() {
        DeadlineCalls x = asking(20, 0, 0);
        x.setRoom(0, 2, 4, 1);
        x.setRoom(2, 2, 4, 1);
        x.call(0, 50);
        x.pass(10);
        Check.same("step 3 no other patience counts", x.calls(), 2);
    }

    private static void noThirdTry() {
        DeadlineCalls x = asking(20, 0, 1);
        x.call(0, 50);
        x.pass(2);
        Check.same("step 3 a second one", x.calls(), 3);
        x.pass(15);
        Check.same("step 3 two are not just one", x.calls(), 3);
        Check.same("15 two are below", x.below(0), 2);
    }

    private static void noSecondTryAfterOneAgain() {
        DeadlineCalls x = asking(1, 1, 2);
        x.call(0, 50);
        x.pass(1);
        x.setWork(1, 20, 1);
        x.pass(1);
        Check.same("step 3 once again", x.calls(), 3);
        x.pass(15);
        Check.same("step 3 two tries, one of them over, are not just one", x.calls(), 3);
    }

    private static void oneOfTwoIsOver() {
        DeadlineCalls x = asking(6, 1, 2);
        x.call(0, 50);
        x.pass(6);
        Check.same("step 3 a second one at 3", x.origin(2), 1001);
        x.pass(1);
        Check.same("step 2 the first one is failed", x.state(1), DeadlineCalls.FAILED);
        Check.same("step 3 not all are over: it waits", x.state(0), DeadlineCalls.ASKING);
        Check.same("step 3 no tokens are taken", x.tokens(1), 20);
        Check.same("step 4 no try is made", x.calls(), 3);
        Check.same("15 one is below", x.below(0), 1);
        x.pass(1);
        Check.same("step 3 nor a tick later", x.calls(), 3);
    }

    private static void bothOfTwoAreOver() {
        DeadlineCalls x = asking(3, 1, 2);
        x.call(0, 50);
        x.pass(4);
        Check.same("step 3 one of two is failed", x.tokens(1), 20);
        x.pass(2);
        Check.same("step 3 both are: the first time again", x.tokens(1), 10);
        Check.same("step 4 a third try", x.calls(), 4);
        x.pass(3);
        Check.same("step 3 the second time again", x.tokens(1), 0);
        Check.same("step 4 but the breaker has its third one", x.isOpen(1), true);
        Check.same("step 4 a fourth try, failed", x.state(4), DeadlineCalls.FAILED);
        Check.same("step 3 no third time again", x.pass(1), 1);
        Check.same("step 3 four tries in all", x.calls(), 5);
    }

    private static void secondAnswersFirst() {
        DeadlineCalls x = asking(20, 0, 2);
        x.call(0, 50);
        x.pass(2);
        x.setWork(1, 3, 0);
        x.pass(1);
        Check.same("step 3 the second one begins with less work", x.calls(), 3);
        Check.same("step 3 and is done first", x.pass(3), 1);
        Check.same("step 3 the first one is cancelled", x.state(1), DeadlineCalls.CANCELLED);
        Check.same("step 3 then", x.overAt(1), 6);
        Check.same("tokens: one", x.tokens(1), 21);
    }

    private static void bothAnswerTogether() {
        DeadlineCalls x = asking(5, 0, 2);
        x.ask(0, 2);
        x.call(0, 50);
        x.pass(2);
        x.setWork(1, 3, 0);
        x.pass(4);
        Check.same("step 2 the first one is done", x.state(1), DeadlineCalls.DONE);
        Check.same("step 2 the second one too", x.state(2), DeadlineCalls.DONE);
        Check.same("tokens: one for each", x.tokens(1), 22);
        Check.same("step 3 one place further, not two", x.place(0), 1);
        Check.same("step 4 one try there", x.calls(), 4);
    }

    private static void secondFailsAndFirstAnswers() {
        DeadlineCalls x = asking(6, 0, 2);
        x.call(0, 50);
        x.pass(2);
        x.setWork(1, 1, 1);
        x.pass(2);
        Check.same("step 2 the second one is failed", x.state(2), DeadlineCalls.FAILED);
        Check.same("step 3 it waits for the first", x.state(0), DeadlineCalls.ASKING);
        x.setWork(1, 1, 0);
        Check.same("step 3 which is done at 7", x.pass(3), 1);
        Check.same("step 3 done", x.state(0), DeadlineCalls.DONE);
        Check.same("13 a failed one stays so", x.overAt(2), 4);
    }

    private static void secondTryForEachPlace() {
        DeadlineCalls x = asking(5, 0, 3);
        x.ask(0, 1);
        x.call(0, 50);
        x.pass(4);
        Check.same("step 3 a second one at place 0", x.calls(), 3);
        x.pass(2);
        Check.same("step 3 place 1", x.place(0), 1);
        Check.same("step 4 with one try", x.below(0), 1);
        x.pass(2);
        Check.same("step 3 not yet", x.calls(), 4);
        x.pass(1);
        Check.same("step 3 a second one at place 1, its own patience counted", x.calls(), 5);
        Check.same("15 two are below", x.below(0), 2);
    }

    private static void overByThenMakesNone() {
        // Try 1 asks at 3 and is done at 6; the second try, made at 4, comes to ask at 6.
        DeadlineCalls x = asking(2, 0, 3);
        x.ask(0, 3);
        x.ask(1, 2);
        x.setWork(2, 3, 0);
        x.setWork(3, 9, 0);
        x.call(0, 50);
        x.pass(5);
        Check.same("step 3 the second try works", x.state(3), DeadlineCalls.WORKING);
        x.pass(1);
        Check.same("step 3 the first try is done", x.state(1), DeadlineCalls.DONE);
        Check.same("step 3 the second is cancelled as it wants a try", x.state(3), DeadlineCalls.CANCELLED);
        Check.same("step 4 and makes none", x.calls(), 5);
        Check.same("step 4 the only new call is of the root", x.origin(4), 3001);
    }

    private static void cancelledByTheRootMakesNone() {
        DeadlineCalls x = asking(9, 0, 2);
        x.call(0, 50);
        x.pass(2);
        Check.same("6 two are cancelled", x.cancel(0), 2);
        x.pass(20);
        Check.same("step 4 no second try of a cancelled one", x.calls(), 2);
    }

    private static void cancelledTryFreesItsWorker() {
        // At 6 the first of two tries is done, and the worker of the second goes to the queue.
        DeadlineCalls x = asking(5, 0, 2);
        x.setRoom(1, 2, 8, 2);
        x.call(0, 50);
        x.pass(3);
        int queued = x.call(1, 50);
        int behind = x.call(1, 50);
        x.pass(2);
        Check.same("step 5 both workers are busy", x.state(queued), DeadlineCalls.QUEUED);
        x.pass(1);
        Check.same("step 3 the second one is cancelled", x.state(2), DeadlineCalls.CANCELLED);
        Check.same("step 5 one has the worker of the first", x.state(queued), DeadlineCalls.WORKING);
        Check.same("step 5 and one that of the second, in the same tick", x.state(behind), DeadlineCalls.WORKING);
    }

    private static void cancelledTryLeavesTheQueue() {
        DeadlineCalls x = asking(5, 0, 2);
        x.setRoom(1, 1, 8, 2);
        x.call(0, 50);
        x.pass(3);
        int behind = x.call(1, 50);
        Check.same("step 4 the second one is queued", x.queuedAt(1, 0), 2);
        x.pass(3);
        Check.same("step 3 it is cancelled in the queue", x.state(2), DeadlineCalls.CANCELLED);
        Check.same("step 5 the one behind it works", x.state(behind), DeadlineCalls.WORKING);
        Check.same("17 none is queued", x.count(1, DeadlineCalls.QUEUED), 0);
    }

    private static void askingHoldsNoWorker() {
        DeadlineCalls x = asking(20, 0, 0);
        x.setRoom(0, 1, 0, 0);
        for (int i = 0; i < 3; i++) {
            Check.same("begins: asking calls have no worker", x.state(x.call(0, 50)), DeadlineCalls.WORKING);
            x.pass(1);
        }
        Check.same("17 three are asking, with one worker", x.count(0, DeadlineCalls.ASKING), 3);
    }

    private static void triesByRisingNumbers() {
        DeadlineCalls x = asking(9, 0, 0);
        x.ask(3, 4);
        x.setWork(0, 3, 0);
        x.setWork(3, 3, 0);
        x.call(3, 50);
        x.call(0, 50);
        x.call(3, 50);
        x.call(0, 50);
        x.pass(3);
        int[] due = {4001, 1002, 4003, 1004};
        for (int i = 0; i < 4; i++) {
            Check.same("step 4 by rising numbers of the callers", x.origin(4 + i), due[i]);
        }
    }

    private static void triesOfOneTickTakeTheWorkersInOrder() {
        DeadlineCalls x = asking(9, 0, 0);
        x.setRoom(0, 4, 4, 0);
        x.setRoom(1, 1, 2, 0);
        for (int i = 0; i < 4; i++) {
            x.call(0, 50);
        }
        x.pass(1);
        int[] due = {DeadlineCalls.WORKING, DeadlineCalls.QUEUED, DeadlineCalls.QUEUED, DeadlineCalls.DROPPED};
        for (int i = 0; i < 4; i++) {
            Check.same("step 4 the try of call " + i, x.state(4 + i), due[i]);
        }
    }

    private static void wholeRowInItsTicks() {
        DeadlineCalls x = new DeadlineCalls();
        x.ask(0, 1);
        x.ask(0, 2);
        x.ask(0, 3);
        x.setWork(0, 2, 0);
        x.setWork(1, 3, 0);
        x.setWork(2, 4, 0);
        x.setWork(3, 5, 0);
        x.call(0, 50);
        x.pass(13);
        int[] over = {5, 9, DeadlineCalls.NONE};
        for (int place = 0; place < 3; place++) {
            Check.same("step 3 each place with its ticks", x.state(1 + place), place < 2 ? DeadlineCalls.DONE : DeadlineCalls.WORKING);
            Check.same("step 3 over", x.overAt(1 + place), over[place]);
        }
        Check.same("step 3 done at 14", x.pass(1), 1);
        Check.same("13 at 14", x.overAt(0), 14);
    }

    private static void failureGoesUpInOneTick() {
        DeadlineCalls x = new DeadlineCalls();
        x.ask(0, 1);
        x.ask(1, 2);
        x.setWork(2, 20, 0);
        // The tries of these two roots are dropped, and take the tokens of 2 and of 1.
        x.call(1, 9);
        x.pass(4);
        x.setWork(1, 20, 0);
        x.call(0, 9);
        x.pass(4);
        x.setWork(1, 1, 0);
        Check.same("tokens: none of 1 and of 2", x.tokens(1) + x.tokens(2), 0);
        int root = x.call(0, 9);
        x.pass(2);
        Check.same("step 4 the try of the try is dropped at once", x.state(root + 2), DeadlineCalls.DROPPED);
        Check.same("step 3 a tick later the try is failed", x.pass(1), 1);
        Check.same("step 3 failed", x.state(root + 1), DeadlineCalls.FAILED);
        Check.same("step 3 then", x.overAt(root + 1), x.time());
        Check.same("step 3 by falling numbers, and so is the root", x.state(root), DeadlineCalls.FAILED);
        Check.same("step 3 in the same tick", x.overAt(root), x.time());
    }

    private static void sameServiceThreeTimes() {
        DeadlineCalls x = new DeadlineCalls();
        for (int i = 1; i <= 3; i++) {
            Check.same("3 the same service again", x.ask(4, 5), i);
        }
        x.call(4, 50);
        x.pass(4);
        Check.same("step 3 three calls of it", x.calls(), 4);
        Check.same("step 3 a token for each", x.tokens(5), 23);
        Check.same("step 3 done", x.state(0), DeadlineCalls.DONE);
    }
}
