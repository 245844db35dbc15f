/** Tokens: at 0, one too few, just enough, and at most; and when they come and go. */
final class TokensTest {
    private TokensTest() {
    }

    static void run() {
        twentyAtFirst();
        oneForEachDone();
        oneForADoneAskingCall();
        noneForOthers();
        fortyNineAndFifty();
        payingFromFifty();
        tenAreEnough();
        nineAreTooFew();
        noneIsTooFew();
        elevenLeaveOne();
        ofTheServiceThatIsAsked();
        tenForTwoThatWant();
        tokenOfTheSameTick();
        tokenOfTheSameStep();
        tokenThatComesTooLate();
        notForTheFirstTry();
        notForTheSecondTry();
        notForTheNextPlace();
    }

    /** Brings a service that has 20 tokens to fewer: tries again of service 0 take them, works of its own give some back. */
    private static DeadlineCalls withTokens(int tokens) {
        DeadlineCalls x = new DeadlineCalls();
        x.ask(0, 1);
        x.setWork(1, 20, 0);
        x.call(0, 9);
        x.pass(4);
        x.setWork(1, 1, 0);
        for (int i = 0; i < tokens; i++) {
            x.call(1, 9);
            x.pass(1);
        }
        x.setWork(1, 20, 0);
        return x;
    }

    private static void twentyAtFirst() {
        for (int s = 0; s < 6; s++) {
            Check.same("tokens: 20 at first", new DeadlineCalls().tokens(s), 20);
        }
    }

    private static void oneForEachDone() {
        DeadlineCalls x = new DeadlineCalls();
        x.setRoom(2, 3, 4, 0);
        x.call(2, 9);
        x.call(2, 9);
        x.call(2, 9);
        x.call(3, 9);
        x.pass(1);
        Check.same("tokens: three more for three in a tick", x.tokens(2), 23);
        Check.same("tokens: of each service its own", x.tokens(3), 21);
        Check.same("tokens: none for the others", x.tokens(1), 20);
    }

    private static void oneForADoneAskingCall() {
        DeadlineCalls x = new DeadlineCalls();
        x.ask(0, 1);
        x.call(0, 9);
        x.pass(1);
        Check.same("tokens: none for coming to ask", x.tokens(0), 20);
        x.pass(1);
        Check.same("tokens: one for the root", x.tokens(0), 21);
        Check.same("tokens: one for its try", x.tokens(1), 21);
    }

    private static void noneForOthers() {
        DeadlineCalls x = new DeadlineCalls();
        x.setWork(0, 2, 1);
        x.setRoom(0, 1, 1, 0);
        x.call(0, 9);
        x.call(0, 9);
        x.call(0, 9);
        x.pass(1);
        Check.same("tokens: none for a dropped one", x.tokens(0), 20);
        x.pass(1);
        Check.same("tokens: none for a failed one", x.tokens(0), 20);
        x.cancel(1);
        Check.same("tokens: none for a cancelled one", x.tokens(0), 20);
        x.call(0, 2);
        x.pass(2);
        Check.same("tokens: none for a late one", x.tokens(0), 20);
    }

    private static void work(DeadlineCalls x, int service, int times) {
        for (int i = 0; i < times; i++) {
            x.call(service, 9);
            x.pass(1);
        }
    }

    private static void fortyNineAndFifty() {
        DeadlineCalls x = new DeadlineCalls();
        work(x, 5, 29);
        Check.same("tokens: 49", x.tokens(5), 49);
        work(x, 5, 1);
        Check.same("tokens: 50 after 49", x.tokens(5), 50);
        work(x, 5, 1);
        Check.same("tokens: 50 at most", x.tokens(5), 50);
        DeadlineCalls y = new DeadlineCalls();
        work(y, 5, 29);
        y.call(5, 9);
        y.call(5, 9);
        y.pass(1);
        Check.same("tokens: 50 at most, with two in a tick", y.tokens(5), 50);
    }

    private static void payingFromFifty() {
        DeadlineCalls x = new DeadlineCalls();
        x.ask(0, 1);
        work(x, 1, 35);
        Check.same("tokens: those beyond 50 are lost", x.tokens(1), 50);
        x.setWork(1, 20, 0);
        x.call(0, 9);
        x.pass(2);
        Check.same("tokens: so 40 are left", x.tokens(1), 40);
    }

    private static void tenAreEnough() {
        DeadlineCalls x = withTokens(10);
        Check.same("tokens: 10", x.tokens(1), 10);
        int root = x.call(0, 9);
        x.pass(2);
        Check.same("step 3 10 are enough", x.state(root), DeadlineCalls.ASKING);
        Check.same("step 3 none is left of 10", x.tokens(1), 0);
        Check.same("step 4 the try again is made", x.origin(root + 2), 1001 + root);
    }

    private static void nineAreTooFew() {
        DeadlineCalls x = withTokens(9);
        Check.same("tokens: 9", x.tokens(1), 9);
        int root = x.call(0, 9);
        x.pass(2);
        Check.same("step 3 9 are too few", x.state(root), DeadlineCalls.FAILED);
        Check.same("step 3 failed in that tick", x.overAt(root), x.time());
        Check.same("step 3 9 are left of 9", x.tokens(1), 9);
        Check.same("step 4 no try again is made", x.calls(), root + 2);
    }

    private static void noneIsTooFew() {
        DeadlineCalls x = withTokens(0);
        Check.same("tokens: 0", x.tokens(1), 0);
        int root = x.call(0, 9);
        x.pass(2);
        Check.same("step 3 0 are too few", x.state(root), DeadlineCalls.FAILED);
        Check.same("tokens: 0 at least", x.tokens(1), 0);
        x.setWork(1, 1, 0);
        work(x, 1, 1);
        Check.same("tokens: one after none", x.tokens(1), 1);
    }

    private static void elevenLeaveOne() {
        DeadlineCalls x = withTokens(11);
        int root = x.call(0, 9);
        x.pass(2);
        Check.same("step 3 11 are enough", x.state(root), DeadlineCalls.ASKING);
        Check.same("step 3 one is left of 11", x.tokens(1), 1);
        x.pass(1);
        Check.same("step 3 but not for once more", x.state(root), DeadlineCalls.FAILED);
    }

    private static void ofTheServiceThatIsAsked() {
        DeadlineCalls x = new DeadlineCalls();
        x.ask(0, 1);
        x.ask(0, 2);
        x.setWork(2, 20, 0);
        x.call(0, 9);
        x.pass(3);
        Check.same("step 3 of the one at place 1", x.tokens(2), 10);
        Check.same("step 3 not of the one at place 0", x.tokens(1), 21);
        Check.same("step 3 nor of the one that asks", x.tokens(0), 20);
    }

    private static void tenForTwoThatWant() {
        DeadlineCalls x = withTokens(10);
        int first = x.call(0, 9);
        int second = x.call(0, 9);
        x.pass(2);
        Check.same("step 3 by falling numbers: the second has them", x.state(second), DeadlineCalls.ASKING);
        Check.same("step 3 nothing is left for the first", x.state(first), DeadlineCalls.FAILED);
    }

    private static void tokenOfTheSameTick() {
        // The tenth token comes in step 2 of the tick in which step 3 asks for it.
        DeadlineCalls x = withTokens(9);
        x.setWork(1, 2, 0);
        x.call(1, 9);
        x.setWork(1, 20, 0);
        int root = x.call(0, 9);
        x.pass(2);
        Check.same("step 2 is ahead of step 3", x.state(root), DeadlineCalls.ASKING);
        Check.same("step 3 takes all ten", x.tokens(1), 0);
    }

    /** A root of 0, whose try of 1 is dropped at 1, and one of 1 that asks 2 and is done in step 3 at 2. */
    private static DeadlineCalls doneInStepThree(boolean rootFirst) {
        DeadlineCalls x = withTokens(9);
        x.ask(1, 2);
        if (rootFirst) {
            x.call(0, 9);
        }
        x.setWork(1, 1, 0);
        x.call(1, 9);
        x.setWork(1, 20, 0);
        if (!rootFirst) {
            x.call(0, 9);
        }
        x.pass(2);
        return x;
    }

    private static void tokenOfTheSameStep() {
        DeadlineCalls x = doneInStepThree(true);
        Check.same("step 3 the later one is done", x.count(1, DeadlineCalls.DONE), 10);
        Check.same("step 3 by falling numbers: its token is there for the earlier", x.count(0, DeadlineCalls.ASKING), 1);
        Check.same("step 3 takes all ten", x.tokens(1), 0);
    }

    private static void tokenThatComesTooLate() {
        DeadlineCalls x = doneInStepThree(false);
        Check.same("step 3 the earlier one is done", x.count(1, DeadlineCalls.DONE), 10);
        Check.same("step 3 by falling numbers: too late for the later", x.count(0, DeadlineCalls.ASKING), 0);
        Check.same("step 3 ten are there then", x.tokens(1), 10);
    }

    private static void notForTheFirstTry() {
        DeadlineCalls x = withTokens(0);
        x.setWork(1, 1, 0);
        int root = x.call(0, 9);
        x.pass(2);
        Check.same("step 3 a first try needs none", x.state(root), DeadlineCalls.DONE);
        Check.same("step 3 and takes none", x.tokens(1), 1);
    }

    private static void notForTheSecondTry() {
        DeadlineCalls x = withTokens(0);
        x.setWork(1, 9, 0);
        x.setRoom(1, 2, 4, 3);
        int root = x.call(0, 50);
        x.pass(4);
        Check.same("step 3 a second try needs none", x.calls(), root + 3);
        Check.same("step 3 and takes none", x.tokens(1), 0);
    }

    private static void notForTheNextPlace() {
        DeadlineCalls x = withTokens(0);
        x.ask(0, 1);
        x.setWork(1, 1, 0);
        int root = x.call(0, 50);
        x.pass(2);
        Check.same("step 3 the next place needs none", x.place(root), 1);
        Check.same("step 4 its try is made", x.calls(), root + 3);
        Check.same("step 3 and takes none", x.tokens(1), 1);
    }
}
