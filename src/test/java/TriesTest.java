/** The steps 3 and 4 of a tick: tries, tries again, second tries, and the row. */
final class TriesTest {
    private TriesTest() {
    }

    static void run() {
        doneGoesUpInOneTick();
        againAtMostTwice();
        againOnlyWithTokens();
        againAnewAtTheNextPlace();
        secondTryAfterPatience();
        firstAnswerCancelsTheOther();
        answerLeavesOtherTrees();
        secondTryAtTheNextPlace();
        secondTryIsTheOnlyOne();
        noSecondTryWithoutPatience();
        noSecondTryOfOneTriedAgain();
        patienceOfNow();
        tryOfAnOpenBreaker();
        tokensByFallingNumbers();
        fullCancelsBelow();
    }

    private static void doneGoesUpInOneTick() {
        DeadlineCalls x = new DeadlineCalls();
        x.ask(0, 1);
        x.ask(1, 2);
        x.ask(2, 3);
        x.ask(3, 4);
        x.ask(4, 5);
        x.call(0, 50);
        x.pass(5);
        Check.same("six calls, one below the other", x.calls(), 6);
        Check.same("with deadlines that shrink", x.deadline(5), 45);
        Check.same("step 3 by falling numbers", x.pass(1), 1);
        for (int c = 0; c < 6; c++) {
            Check.same("step 3 all at 6", x.overAt(c), 6);
            Check.same("step 3 a token for each", x.tokens(c), 21);
        }
    }

    private static void againAtMostTwice() {
        DeadlineCalls x = new DeadlineCalls();
        x.ask(0, 1);
        x.setWork(1, 1, 1);
        // Tokens enough for three tries again: 30 are there after ten works.
        x.setWork(1, 1, 0);
        for (int i = 0; i < 10; i++) {
            x.call(1, 9);
            x.pass(1);
        }
        Check.same("30 tokens", x.tokens(1), 30);
        x.setWork(1, 1, 1);
        int root = x.call(0, 50);
        x.pass(1);
        Check.same("step 4 the first try", x.calls(), 12);
        x.pass(1);
        Check.same("step 3 the second in the tick of the failure", x.calls(), 13);
        Check.same("step 3 has 10 less", x.tokens(1), 20);
        Check.same("step 3 not over", x.state(root), DeadlineCalls.ASKING);
        x.pass(1);
        Check.same("step 3 the third", x.calls(), 14);
        Check.same("step 3 has 10 less", x.tokens(1), 10);
        Check.same("step 3 no fourth", x.pass(1), 1);
        Check.same("step 3 failed", x.state(root), DeadlineCalls.FAILED);
        Check.same("step 3 nothing taken for that", x.tokens(1), 10);
        Check.same("step 3 three tries in all", x.calls(), 14);
    }

    private static void againOnlyWithTokens() {
        DeadlineCalls x = new DeadlineCalls();
        x.ask(0, 1);
        x.setWork(1, 20, 0);
        // Two roots take the 20 tokens, one each in a tick, so neither has a third try.
        x.call(0, 5);
        x.call(0, 5);
        x.pass(2);
        Check.same("step 3 none left", x.tokens(1), 0);
        Check.same("step 3 both again", x.calls(), 6);
        Check.same("step 3 both failed", x.pass(1), 2);
        Check.same("step 3 failed", x.count(0, DeadlineCalls.FAILED), 2);
        x.setWork(1, 1, 0);
        for (int i = 0; i < 9; i++) {
            x.call(1, 5);
            x.pass(1);
        }
        Check.same("9 tokens", x.tokens(1), 9);
        x.setWork(1, 20, 0);
        int without = x.call(0, 5);
        x.pass(2);
        Check.same("step 3 9 are too few", x.state(without), DeadlineCalls.FAILED);
        Check.same("step 3 9 are left", x.tokens(1), 9);
        x.setWork(1, 1, 0);
        x.call(1, 5);
        x.pass(1);
        x.setWork(1, 20, 0);
        int with = x.call(0, 5);
        x.pass(2);
        Check.same("step 3 10 are enough", x.state(with), DeadlineCalls.ASKING);
        Check.same("step 3 none is left", x.tokens(1), 0);
    }

    private static void againAnewAtTheNextPlace() {
        DeadlineCalls x = new DeadlineCalls();
        x.ask(0, 1);
        x.ask(0, 2);
        for (int s = 1; s < 3; s++) {
            x.setWork(s, 1, 0);
            for (int i = 0; i < 30; i++) {
                x.call(s, 9);
                x.pass(1);
            }
        }
        int before = x.calls();
        x.setWork(1, 1, 1);
        x.setWork(2, 1, 1);
        int root = x.call(0, 90);
        x.pass(3);
        x.setWork(1, 1, 0);
        x.pass(1);
        Check.same("step 3 two again at place 0", x.tokens(1), 31);
        Check.same("step 3 at place 1 now", x.place(root), 1);
        Check.same("step 4 with four tries", x.calls(), before + 5);
        x.pass(2);
        Check.same("step 3 two again at place 1", x.tokens(2), 30);
        Check.same("step 3 failed then", x.pass(1), 1);
        Check.same("step 4 with six tries", x.calls(), before + 7);
    }

    private static DeadlineCalls slow(int patience, int workers) {
        DeadlineCalls x = new DeadlineCalls();
        x.ask(0, 1);
        x.setWork(1, 10, 0);
        x.setRoom(1, workers, 4, patience);
        x.call(0, 90);
        x.pass(1);
        return x;
    }

    private static void secondTryAfterPatience() {
        DeadlineCalls x = slow(3, 2);
        x.pass(2);
        Check.same("step 3 not yet after 2 ticks", x.calls(), 2);
        x.pass(1);
        Check.same("step 3 a second try after 3", x.calls(), 3);
        Check.same("step 4 it begins", x.state(2), DeadlineCalls.WORKING);
        Check.same("step 4 of that service and parent", x.origin(2), 1001);
        Check.same("step 4 with the deadline less 1", x.deadline(2), 89);
        Check.same("step 3 it costs no tokens", x.tokens(1), 20);
        Check.same("two below", x.below(0), 2);
    }

    private static void firstAnswerCancelsTheOther() {
        DeadlineCalls x = slow(3, 2);
        x.pass(3);
        Check.same("step 3 with the first answer", x.pass(7), 1);
        Check.same("step 3 done", x.state(0), DeadlineCalls.DONE);
        Check.same("step 3 done", x.state(1), DeadlineCalls.DONE);
        Check.same("step 3 the other is cancelled", x.state(2), DeadlineCalls.CANCELLED);
        Check.same("step 3 then", x.overAt(2), 11);
        // With a row of two the cancelling comes while the parent goes on.
        DeadlineCalls y = new DeadlineCalls();
        y.ask(0, 1);
        y.ask(0, 3);
        y.ask(1, 2);
        y.setWork(2, 10, 0);
        y.setWork(3, 10, 0);
        y.setRoom(1, 2, 4, 3);
        y.call(0, 90);
        y.pass(10);
        // Calls 1 and 3 are tries of service 1, 2 and 4 of service 2 below them.
        Check.same("five calls", y.calls(), 5);
        Check.same("the second try asks too", y.origin(4), 2004);
        Check.same("four below", y.below(0), 4);
        y.pass(2);
        Check.same("step 3 the first is done", y.state(1), DeadlineCalls.DONE);
        Check.same("step 3 the second is cancelled", y.state(3), DeadlineCalls.CANCELLED);
        Check.same("step 3 and what is below it", y.state(4), DeadlineCalls.CANCELLED);
        Check.same("step 3 the parent asks the next", y.place(0), 1);
        Check.same("step 4 in the same tick", y.origin(5), 3001);
        Check.same("one below", y.below(0), 1);
        Check.same("step 3 no second try of a service without patience", y.pass(9), 0);
        Check.same("step 3 done at last", y.pass(1), 1);
    }

    private static void answerLeavesOtherTrees() {
        DeadlineCalls x = slow(3, 2);
        x.call(5, 90);
        x.pass(3);
        x.setWork(4, 20, 0);
        x.call(4, 90);
        x.pass(7);
        Check.same("step 3 the second try is cancelled", x.state(3), DeadlineCalls.CANCELLED);
        Check.same("step 3 another root goes on", x.state(4), DeadlineCalls.WORKING);
        // Of two trees the first has its answer ahead of the second, and goes on at place 1.
        DeadlineCalls y = new DeadlineCalls();
        y.ask(0, 1);
        y.ask(0, 2);
        y.setWork(1, 5, 0);
        y.setWork(2, 20, 0);
        y.call(0, 90);
        y.pass(2);
        y.call(0, 90);
        y.pass(4);
        Check.same("step 3 the first is at place 1", y.place(0), 1);
        Check.same("step 3 the second at place 0", y.place(2), 0);
        Check.same("step 3 and its try works", y.state(3), DeadlineCalls.WORKING);
    }

    private static void secondTryAtTheNextPlace() {
        DeadlineCalls x = slow(0, 2);
        x.ask(0, 2);
        x.cancel(0);
        x.setWork(1, 1, 0);
        x.setWork(2, 10, 0);
        x.setRoom(2, 2, 4, 3);
        int root = x.call(0, 90);
        x.pass(2);
        Check.same("step 3 at place 1", x.place(root), 1);
        Check.same("step 4 with one try for it", x.calls(), root + 3);
        x.pass(2);
        Check.same("step 3 no second one yet", x.calls(), root + 3);
        x.pass(1);
        Check.same("step 3 a second one after 3 ticks", x.calls(), root + 4);
        Check.same("step 4 of service 2", x.origin(root + 3), 2000 + root + 1);
    }

    private static void secondTryIsTheOnlyOne() {
        DeadlineCalls x = slow(1, 5);
        x.pass(1);
        Check.same("step 3 a second one", x.calls(), 3);
        x.pass(5);
        Check.same("step 3 and no third one", x.calls(), 3);
    }

    private static void noSecondTryWithoutPatience() {
        DeadlineCalls x = slow(0, 2);
        x.pass(9);
        Check.same("step 3 none", x.calls(), 2);
        DeadlineCalls y = slow(50, 2);
        y.pass(9);
        Check.same("step 3 none yet", y.calls(), 2);
    }

    private static void noSecondTryOfOneTriedAgain() {
        DeadlineCalls x = new DeadlineCalls();
        x.ask(0, 1);
        x.setRoom(1, 2, 4, 2);
        x.setWork(1, 1, 1);
        x.call(0, 90);
        x.pass(1);
        x.setWork(1, 1, 1);
        x.pass(1);
        x.setWork(1, 20, 0);
        Check.same("step 3 tried again", x.calls(), 3);
        // The second try began with the work of 1 tick and fails; the third takes 20.
        x.setWork(1, 20, 1);
        x.pass(1);
        x.setWork(1, 20, 0);
        Check.same("step 3 tried again", x.calls(), 4);
        x.pass(10);
        Check.same("step 3 with more than one try there is no second one", x.calls(), 4);
        // Second tries that are over count as tries: the parent waits for the open one.
        DeadlineCalls y = slow(2, 1);
        y.setRoom(1, 1, 0, 2);
        y.pass(2);
        Check.same("step 4 the second try is dropped", y.state(2), DeadlineCalls.DROPPED);
        y.pass(5);
        Check.same("step 3 no other comes", y.calls(), 3);
        Check.same("step 3 nor does it fail", y.state(0), DeadlineCalls.ASKING);
        Check.same("step 3 the first one answers", y.pass(3), 1);
        Check.same("step 3 done", y.state(0), DeadlineCalls.DONE);
    }

    private static void patienceOfNow() {
        DeadlineCalls x = slow(50, 2);
        x.pass(4);
        x.setRoom(1, 2, 4, 2);
        x.pass(1);
        Check.same("step 3 longer ago than the patience of now", x.calls(), 3);
        // The patience of the service that is asked counts, not that of the one that asks.
        DeadlineCalls y = slow(0, 2);
        y.setRoom(0, 2, 4, 1);
        y.pass(5);
        Check.same("step 3 not the patience of the asking one", y.calls(), 2);
    }

    private static void tryOfAnOpenBreaker() {
        DeadlineCalls x = new DeadlineCalls();
        x.ask(0, 1);
        x.setRoom(1, 3, 4, 0);
        x.setWork(1, 1, 1);
        x.call(1, 9);
        x.call(1, 9);
        x.call(1, 9);
        x.pass(1);
        int root = x.call(0, 50);
        x.pass(1);
        Check.same("step 4 the try is failed at once", x.state(root + 1), DeadlineCalls.FAILED);
        Check.same("step 4 then", x.overAt(root + 1), 2);
        x.pass(1);
        Check.same("step 3 again a tick later", x.calls(), root + 3);
        x.pass(1);
        Check.same("step 3 and again", x.calls(), root + 4);
        Check.same("step 3 then failed", x.pass(1), 1);
        Check.same("step 3 no tokens left", x.tokens(1), 0);
    }

    private static void tokensByFallingNumbers() {
        DeadlineCalls x = new DeadlineCalls();
        x.ask(0, 1);
        x.setRoom(0, 3, 4, 0);
        x.setWork(1, 20, 0);
        // Three roots, each with a dropped try; 20 tokens are enough for two of them.
        x.call(0, 9);
        x.call(0, 9);
        x.call(0, 9);
        x.pass(2);
        Check.same("step 3 the last goes first", x.state(2), DeadlineCalls.ASKING);
        Check.same("step 3 then the one ahead", x.state(1), DeadlineCalls.ASKING);
        Check.same("step 3 nothing is left for the first", x.state(0), DeadlineCalls.FAILED);
        Check.same("step 4 by rising numbers", x.origin(6), 1002);
        Check.same("step 4 by rising numbers", x.origin(7), 1003);
    }

    private static void fullCancelsBelow() {
        // Two levels want tries in one tick, and there are 200 calls.
        DeadlineCalls x = new DeadlineCalls();
        x.ask(0, 1);
        x.ask(1, 2);
        x.setWork(2, 20, 0);
        x.setRoom(1, 2, 4, 1);
        x.setRoom(3, 1, 0, 0);
        x.call(0, 90);
        x.pass(1);
        while (x.calls() < 200) {
            x.call(3, 50);
        }
        x.pass(1);
        Check.same("step 4 the root is failed", x.state(0), DeadlineCalls.FAILED);
        Check.same("step 4 and what is below it cancelled", x.state(1), DeadlineCalls.CANCELLED);
        Check.same("step 4 still 200 calls", x.calls(), 200);
        Check.same("step 4 none is asking", x.count(1, DeadlineCalls.ASKING), 0);
        Check.same("step 4 the service has failed none", x.count(1, DeadlineCalls.FAILED), 0);
    }
}
