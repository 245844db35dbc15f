/** Rows, queues, workers and the calls: empty, just not full, full, and one more. */
final class CapacityTest {
    private CapacityTest() {
    }

    static void run() {
        emptyRow();
        rowOfOne();
        fullRow();
        fullRowOfEachService();
        lowestAndHighestOther();
        rowTakenWhenWorkIsReady();
        rowOfATryIsOfItsService();
        workersJustFree();
        queueJustFree();
        queueBehindTheOthers();
        queueLongerThanItsRoom();
        queueEmptiedInOneTick();
        workersFewerThanWorking();
        queueOfCancelledOnes();
        tryTakesTheWorkerAheadOfTheQueue();
        tryIsQueuedBehind();
        lastCallIsATry();
        lastCallOfTwoThatWant();
        fullForASecondTry();
        fullForATryAgain();
        fullForTheNextPlace();
        fullFailureIsSeenATickLater();
    }

    private static void emptyRow() {
        DeadlineCalls x = new DeadlineCalls();
        x.call(0, 9);
        Check.same("step 2 the row is empty: done", x.pass(1), 1);
        Check.same("step 2 the row is empty: no tries", x.calls(), 1);
    }

    private static void rowOfOne() {
        DeadlineCalls x = new DeadlineCalls();
        x.ask(0, 1);
        x.call(0, 9);
        Check.same("step 2 the row has one: not done", x.pass(1), 0);
        Check.same("step 2 the row has one: asking", x.state(0), DeadlineCalls.ASKING);
        Check.same("14 the first place", x.place(0), 0);
        Check.same("step 3 there is no next one: done", x.pass(1), 1);
        Check.same("step 3 one try for it", x.calls(), 2);
    }

    private static void fullRow() {
        DeadlineCalls x = new DeadlineCalls();
        Check.same("3 the first", x.ask(0, 3), 1);
        Check.same("3 the second", x.ask(0, 1), 2);
        Check.same("3 the third", x.ask(0, 2), 3);
        Check.notNow("3 no fourth", () -> x.ask(0, 4));
        x.call(0, 50);
        int[] origins = {3001, 1001, 2001};
        for (int place = 0; place < 3; place++) {
            Check.same("3 not over at place " + place, x.pass(1), 0);
            Check.same("14 place " + place, x.place(0), place);
            Check.same("3 asked at place " + place, x.origin(place + 1), origins[place]);
        }
        Check.same("step 3 after the third it is done", x.pass(1), 1);
        Check.same("3 the fourth was not asked", x.calls(), 4);
    }

    private static void fullRowOfEachService() {
        DeadlineCalls x = new DeadlineCalls();
        for (int service = 0; service < 5; service++) {
            int s = service;
            for (int i = 1; i <= 3; i++) {
                Check.same("3 service " + s + " asks " + i, x.ask(s, s + 1), i);
            }
            Check.notNow("3 service " + s + " asks 3", () -> x.ask(s, 5));
        }
        Check.outOfRange("3 the row of 5 stays empty", () -> x.ask(5, 5));
    }

    private static void lowestAndHighestOther() {
        for (int service = 0; service < 5; service++) {
            int s = service;
            DeadlineCalls x = new DeadlineCalls();
            Check.outOfRange("3 " + s + " asks no one below", () -> x.ask(s, Math.max(0, s - 1)));
            Check.outOfRange("3 " + s + " does not ask itself", () -> x.ask(s, s));
            Check.same("3 " + s + " asks the next one", x.ask(s, s + 1), 1);
            Check.same("3 " + s + " asks 5", x.ask(s, 5), 2);
            Check.noSuch("3 " + s + " asks no 6", () -> x.ask(s, 6));
        }
    }

    private static void rowTakenWhenWorkIsReady() {
        DeadlineCalls x = new DeadlineCalls();
        x.call(0, 50);
        x.ask(0, 1);
        x.pass(1);
        Check.same("step 2 told while it works: asked", x.origin(1), 1001);
        x.ask(0, 2);
        Check.same("the row as it was: told too late", x.pass(1), 1);
        Check.same("the row as it was: not asked", x.calls(), 2);
        x.call(0, 50);
        x.pass(2);
        Check.same("a later call asks it", x.origin(4), 2003);
    }

    private static void rowOfATryIsOfItsService() {
        DeadlineCalls x = new DeadlineCalls();
        x.ask(0, 1);
        x.ask(1, 2);
        x.call(0, 50);
        x.pass(2);
        Check.same("a try asks too", x.state(1), DeadlineCalls.ASKING);
        Check.same("a try of the try", x.origin(2), 2002);
        Check.same("all done", x.pass(1), 1);
    }

    private static void workersJustFree() {
        DeadlineCalls x = new DeadlineCalls();
        x.setRoom(0, 3, 8, 0);
        x.setWork(0, 5, 0);
        x.call(0, 50);
        x.call(0, 50);
        Check.same("begins: two are fewer than three workers", x.state(x.call(0, 50)), DeadlineCalls.WORKING);
        Check.same("begins: three are not", x.state(x.call(0, 50)), DeadlineCalls.QUEUED);
        Check.same("begins: workers of another service", x.state(x.call(1, 50)), DeadlineCalls.WORKING);
    }

    private static void queueJustFree() {
        DeadlineCalls x = new DeadlineCalls();
        x.setRoom(0, 1, 2, 0);
        x.setWork(0, 5, 0);
        x.call(0, 50);
        x.call(0, 50);
        Check.same("begins: one is fewer than the room of two", x.state(x.call(0, 50)), DeadlineCalls.QUEUED);
        int refused = x.call(0, 50);
        Check.same("begins: two are not", x.state(refused), DeadlineCalls.DROPPED);
        Check.same("begins: dropped at once", x.overAt(refused), 0);
        x.cancel(1);
        Check.same("begins: room again after a cancelled one", x.state(x.call(0, 50)), DeadlineCalls.QUEUED);
        Check.same("begins: and full again", x.state(x.call(0, 50)), DeadlineCalls.DROPPED);
    }

    private static void queueBehindTheOthers() {
        DeadlineCalls x = new DeadlineCalls();
        x.setRoom(0, 1, 8, 0);
        x.setWork(0, 3, 0);
        x.call(0, 50);
        x.call(0, 90);
        x.call(0, 40);
        x.pass(3);
        x.call(0, 60);
        Check.same("16 the first one, with the later deadline, works", x.state(1), DeadlineCalls.WORKING);
        Check.same("16 the next", x.queuedAt(0, 0), 2);
        Check.same("16 the last one is behind", x.queuedAt(0, 1), 3);
    }

    private static void queueLongerThanItsRoom() {
        DeadlineCalls x = new DeadlineCalls();
        x.setRoom(0, 1, 8, 0);
        x.setWork(0, 2, 0);
        for (int i = 0; i < 9; i++) {
            x.call(0, 90);
        }
        x.setRoom(0, 1, 7, 0);
        Check.same("4 the eighth stays queued", x.queuedAt(0, 7), 8);
        Check.same("4 eight are queued, room 7", x.state(x.call(0, 90)), DeadlineCalls.DROPPED);
        x.pass(2);
        Check.same("4 seven are queued", x.count(0, DeadlineCalls.QUEUED), 7);
        Check.same("4 seven are not fewer than 7", x.state(x.call(0, 90)), DeadlineCalls.DROPPED);
        x.pass(2);
        Check.same("4 six are fewer", x.state(x.call(0, 90)), DeadlineCalls.QUEUED);
        x.setRoom(0, 1, 0, 0);
        x.pass(14);
        Check.same("4 with room 0 all have their turn", x.count(0, DeadlineCalls.DONE), 9);
        Check.same("4 the last one works", x.state(11), DeadlineCalls.WORKING);
        Check.noSuch("16 the queue is empty", () -> x.queuedAt(0, 0));
    }

    private static void queueEmptiedInOneTick() {
        DeadlineCalls x = new DeadlineCalls();
        x.setRoom(0, 1, 8, 0);
        x.setWork(0, 4, 0);
        for (int i = 0; i < 6; i++) {
            x.call(0, 90);
        }
        x.setRoom(0, 5, 8, 0);
        x.pass(1);
        Check.same("step 5 as long as workers are free", x.count(0, DeadlineCalls.WORKING), 5);
        Check.same("step 5 and one waits", x.queuedAt(0, 0), 5);
        x.pass(3);
        Check.same("step 5 it has the worker of the first", x.state(5), DeadlineCalls.WORKING);
        Check.noSuch("step 5 the queue is empty", () -> x.queuedAt(0, 0));
        Check.same("step 5 the four are done with their own ticks", x.pass(1), 4);
        Check.same("step 5 the last one 4 ticks after it began", x.pass(2), 0);
        Check.same("step 5 then", x.pass(1), 1);
    }

    private static void workersFewerThanWorking() {
        DeadlineCalls x = new DeadlineCalls();
        x.setRoom(0, 3, 8, 0);
        x.setWork(0, 2, 0);
        x.call(0, 90);
        x.pass(1);
        for (int i = 0; i < 4; i++) {
            x.call(0, 90);
        }
        x.setRoom(0, 2, 8, 0);
        Check.same("4 three work, two workers", x.count(0, DeadlineCalls.WORKING), 3);
        x.pass(1);
        Check.same("step 5 two work, which is not fewer", x.count(0, DeadlineCalls.WORKING), 2);
        Check.same("step 5 so two wait still", x.count(0, DeadlineCalls.QUEUED), 2);
        x.pass(1);
        Check.same("step 5 then both work", x.count(0, DeadlineCalls.WORKING), 2);
    }

    private static void queueOfCancelledOnes() {
        DeadlineCalls x = new DeadlineCalls();
        x.setRoom(0, 1, 2, 0);
        x.setWork(0, 2, 0);
        x.call(0, 90);
        x.call(0, 90);
        x.call(0, 90);
        x.cancel(1);
        x.cancel(2);
        Check.noSuch("16 none is queued any more", () -> x.queuedAt(0, 0));
        x.pass(2);
        Check.same("step 5 no one is there to work", x.count(0, DeadlineCalls.WORKING), 0);
    }

    private static void tryTakesTheWorkerAheadOfTheQueue() {
        // At 2 the only worker of service 1 is free from step 2 on; a try begins in step 4.
        DeadlineCalls x = new DeadlineCalls();
        x.ask(0, 1);
        x.setRoom(1, 1, 4, 0);
        x.setWork(0, 2, 0);
        x.setWork(1, 2, 0);
        x.call(1, 50);
        x.call(1, 50);
        x.call(0, 50);
        x.pass(2);
        Check.same("step 4 is ahead of step 5", x.state(3), DeadlineCalls.WORKING);
        Check.same("step 5 the queued one waits on", x.state(1), DeadlineCalls.QUEUED);
    }

    private static void tryIsQueuedBehind() {
        DeadlineCalls x = new DeadlineCalls();
        x.ask(0, 1);
        x.setRoom(1, 1, 2, 0);
        x.setWork(1, 9, 0);
        x.call(0, 50);
        x.call(0, 50);
        x.call(1, 50);
        x.call(1, 50);
        x.pass(1);
        Check.same("step 4 the first try has the last place", x.queuedAt(1, 1), 4);
        Check.same("step 4 the second one has none", x.state(5), DeadlineCalls.DROPPED);
    }

    private static void fill(DeadlineCalls x, int calls) {
        x.setRoom(5, 1, 0, 0);
        for (int i = x.calls(); i < calls; i++) {
            x.call(5, 100);
        }
    }

    private static void lastCallIsATry() {
        DeadlineCalls x = new DeadlineCalls();
        x.ask(0, 1);
        x.setWork(1, 5, 0);
        x.call(0, 90);
        fill(x, 199);
        x.pass(1);
        Check.same("step 4 the 200th call is a try", x.calls(), 200);
        Check.same("step 4 it begins", x.state(199), DeadlineCalls.WORKING);
        Check.same("step 4 its parent", x.origin(199), 1001);
        Check.notNow("5 no call more", () -> x.call(0, 90));
        Check.same("step 4 it is done like any other", x.pass(5), 1);
    }

    private static void lastCallOfTwoThatWant() {
        DeadlineCalls x = new DeadlineCalls();
        x.ask(0, 1);
        x.setWork(1, 5, 0);
        x.call(0, 90);
        x.call(0, 90);
        fill(x, 199);
        x.pass(1);
        Check.same("step 4 the first of them has it", x.origin(199), 1001);
        Check.same("step 4 and asks", x.state(0), DeadlineCalls.ASKING);
        Check.same("step 4 the second is failed", x.state(1), DeadlineCalls.FAILED);
        Check.same("step 4 in the same tick", x.overAt(1), 1);
        Check.same("step 4 no call is made for it", x.calls(), 200);
    }

    private static void fullForASecondTry() {
        DeadlineCalls x = new DeadlineCalls();
        x.ask(0, 1);
        x.setWork(1, 5, 0);
        x.setRoom(1, 2, 4, 2);
        x.call(0, 90);
        x.pass(1);
        fill(x, 200);
        x.pass(1);
        Check.same("step 4 nothing is wanted yet", x.state(0), DeadlineCalls.ASKING);
        Check.same("step 4 with the patience at its end", x.pass(1), 1);
        Check.same("step 4 it is failed", x.state(0), DeadlineCalls.FAILED);
        Check.same("step 4 its first try is cancelled", x.state(1), DeadlineCalls.CANCELLED);
        Check.same("step 4 at once", x.overAt(1), 3);
        Check.same("step 4 its worker is free", x.count(1, DeadlineCalls.WORKING), 0);
    }

    private static void fullForATryAgain() {
        DeadlineCalls x = new DeadlineCalls();
        x.ask(0, 1);
        x.setWork(1, 1, 1);
        x.call(0, 90);
        x.pass(1);
        fill(x, 200);
        x.pass(1);
        Check.same("step 4 it is failed", x.state(0), DeadlineCalls.FAILED);
        Check.same("step 3 the tokens are taken ahead of that", x.tokens(1), 10);
    }

    private static void fullForTheNextPlace() {
        DeadlineCalls x = new DeadlineCalls();
        x.ask(0, 1);
        x.ask(0, 2);
        x.call(0, 90);
        x.call(0, 90);
        x.pass(1);
        fill(x, 199);
        x.pass(1);
        Check.same("step 4 the first asks the next one", x.place(0), 1);
        Check.same("step 4 with the 200th call", x.origin(199), 2001);
        Check.same("step 4 the second is failed", x.state(1), DeadlineCalls.FAILED);
        Check.same("step 3 without a call its try stays done", x.state(3), DeadlineCalls.DONE);
    }

    private static void fullFailureIsSeenATickLater() {
        DeadlineCalls x = new DeadlineCalls();
        x.ask(0, 1);
        x.ask(1, 2);
        x.call(0, 90);
        x.pass(1);
        fill(x, 200);
        x.pass(1);
        Check.same("step 4 the try is failed", x.state(1), DeadlineCalls.FAILED);
        Check.same("step 4 is behind step 3", x.state(0), DeadlineCalls.ASKING);
        Check.same("step 3 no tokens yet", x.tokens(1), 20);
        Check.same("step 3 a tick later", x.pass(1), 1);
        Check.same("step 3 it wants one more", x.tokens(1), 10);
        Check.same("step 4 and is failed", x.state(0), DeadlineCalls.FAILED);
    }
}
