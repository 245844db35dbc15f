/** The smallest and the largest arguments that are allowed, by what they do, and one less or more where it shows. */
final class LimitsTest {
    private LimitsTest() {
    }

    static void run() {
        firstSettingsOfEachService();
        neverFailsAtFirst();
        noPatienceAtFirst();
        leastWork();
        mostWork();
        eachOfOne();
        eachOfTwenty();
        eachOfNone();
        leastWorkers();
        mostWorkers();
        leastRoom();
        mostRoom();
        leastPatience();
        mostPatience();
        noPatience();
        leastTicksOfACall();
        mostTicksOfACall();
        leastAndMostTicksToPass();
        callsAreCountedFromZero();
        lastOfTheCallsOfAnObject();
        objectsAreApart();
    }

    private static void firstSettingsOfEachService() {
        for (int service = 0; service < 6; service++) {
            int s = service;
            DeadlineCalls x = new DeadlineCalls();
            for (int i = 0; i < 7; i++) {
                x.call(s, 50);
            }
            Check.same("services: workers of " + s, x.count(s, DeadlineCalls.WORKING), 2);
            Check.same("services: room of " + s, x.count(s, DeadlineCalls.QUEUED), 4);
            Check.same("services: dropped of " + s, x.count(s, DeadlineCalls.DROPPED), 1);
            Check.same("services: a tick of work of " + s, x.pass(1), 2);
            Check.same("services: none failed, none asked by " + s, x.count(s, DeadlineCalls.DONE), 2);
            Check.same("services: tokens of " + s, x.tokens(s), 22);
            Check.same("services: no row of " + s + ", so no call more", x.calls(), 7);
            Check.same("2 work before of " + s, x.setWork(s, 2, 0), 1);
            Check.same("4 workers before of " + s, x.setRoom(s, 3, 4, 0), 2);
        }
    }

    /** More works than the greatest number of which one could fail, twice. */
    private static void neverFailsAtFirst() {
        for (int s = 0; s < 6; s++) {
            DeadlineCalls x = new DeadlineCalls();
            for (int i = 0; i < 41; i++) {
                x.call(s, 9);
                x.pass(1);
            }
            Check.same("services: none of 41 works of " + s + " fails", x.count(s, DeadlineCalls.DONE), 41);
        }
    }

    private static void noPatienceAtFirst() {
        for (int s = 1; s < 6; s++) {
            // Two roots work for 20 ticks, two for the next 20; the try's turn comes at 40, and its end at 60.
            DeadlineCalls x = new DeadlineCalls();
            x.ask(s - 1, s);
            x.setWork(s, 20, 0);
            for (int i = 0; i < 5; i++) {
                x.call(s, 90);
            }
            int root = x.call(s - 1, 90);
            x.pass(59);
            Check.same("services: the only try of " + s + " for 58 ticks", x.calls(), root + 2);
            Check.same("services: it is not over", x.below(root), 1);
            x.pass(1);
            Check.same("services: then it answers", x.state(root), DeadlineCalls.DONE);
        }
    }

    private static void leastWork() {
        DeadlineCalls x = new DeadlineCalls();
        x.setWork(5, 20, 0);
        Check.same("2 work 1 is allowed", x.setWork(5, 1, 0), 20);
        int c = x.call(5, 100);
        Check.same("2 work 1 is not ready at once", x.state(c), DeadlineCalls.WORKING);
        Check.same("2 work 1 is ready a tick later", x.pass(1), 1);
        Check.same("2 work 1, done at 1", x.overAt(c), 1);
    }

    private static void mostWork() {
        DeadlineCalls x = new DeadlineCalls();
        Check.same("2 work 20 is allowed", x.setWork(0, 20, 0), 1);
        int c = x.call(0, 100);
        Check.same("2 work 20 is not ready 19 ticks later", x.pass(19), 0);
        Check.same("2 work 20 still works", x.state(c), DeadlineCalls.WORKING);
        Check.same("2 work 20 is ready 20 ticks later", x.pass(1), 1);
        Check.same("2 work 20, done at 20", x.overAt(c), 20);
    }

    private static void eachOfOne() {
        DeadlineCalls x = new DeadlineCalls();
        x.setWork(0, 1, 1);
        x.call(0, 9);
        x.call(0, 9);
        x.pass(1);
        Check.same("2 each 1: the first work fails", x.state(0), DeadlineCalls.FAILED);
        Check.same("2 each 1: the second too", x.state(1), DeadlineCalls.FAILED);
    }

    private static void eachOfTwenty() {
        DeadlineCalls x = new DeadlineCalls();
        x.setRoom(3, 5, 0, 0);
        x.setWork(3, 1, 20);
        for (int i = 1; i <= 41; i++) {
            int c = x.call(3, 9);
            x.pass(1);
            int due = i % 20 == 0 ? DeadlineCalls.FAILED : DeadlineCalls.DONE;
            Check.same("2 each 20: work " + i, x.state(c), due);
        }
    }

    private static void eachOfNone() {
        DeadlineCalls x = new DeadlineCalls();
        x.setWork(0, 1, 2);
        x.call(0, 9);
        x.pass(1);
        Check.same("2 each 0 is allowed", x.setWork(0, 1, 0), 1);
        for (int i = 0; i < 41; i++) {
            x.call(0, 9);
            x.pass(1);
        }
        Check.same("2 each 0: none fails", x.count(0, DeadlineCalls.DONE), 42);
    }

    private static void crowd(DeadlineCalls x, int service, int calls) {
        for (int i = 0; i < calls; i++) {
            x.call(service, 100);
        }
    }

    private static void leastWorkers() {
        DeadlineCalls x = new DeadlineCalls();
        Check.same("4 one worker is allowed", x.setRoom(0, 1, 8, 0), 2);
        crowd(x, 0, 2);
        Check.same("4 one worker: the first works", x.state(0), DeadlineCalls.WORKING);
        Check.same("4 one worker: the second is queued", x.state(1), DeadlineCalls.QUEUED);
    }

    private static void mostWorkers() {
        DeadlineCalls x = new DeadlineCalls();
        Check.same("4 five workers are allowed", x.setRoom(5, 5, 8, 0), 2);
        crowd(x, 5, 6);
        Check.same("4 five workers: the fifth works", x.state(4), DeadlineCalls.WORKING);
        Check.same("4 five workers: the sixth is queued", x.state(5), DeadlineCalls.QUEUED);
    }

    private static void leastRoom() {
        DeadlineCalls x = new DeadlineCalls();
        Check.same("4 room 0 is allowed", x.setRoom(0, 1, 0, 0), 2);
        crowd(x, 0, 2);
        Check.same("4 room 0: one works", x.state(0), DeadlineCalls.WORKING);
        Check.same("4 room 0: the next is dropped", x.state(1), DeadlineCalls.DROPPED);
        Check.same("4 room 0: none is queued", x.count(0, DeadlineCalls.QUEUED), 0);
    }

    private static void mostRoom() {
        DeadlineCalls x = new DeadlineCalls();
        Check.same("4 room 8 is allowed", x.setRoom(0, 1, 8, 0), 2);
        crowd(x, 0, 10);
        Check.same("4 room 8: the eighth is queued", x.state(8), DeadlineCalls.QUEUED);
        Check.same("4 room 8: the ninth is dropped", x.state(9), DeadlineCalls.DROPPED);
        Check.same("4 room 8: the last in the queue", x.queuedAt(0, 7), 8);
        Check.noSuch("4 room 8: no ninth in the queue", () -> x.queuedAt(0, 8));
    }

    /** Call 0 of service 0 asks service 1 at 1 and has its answer long after; call 1 is its try. */
    private static DeadlineCalls waiting(int patience) {
        DeadlineCalls x = new DeadlineCalls();
        x.ask(0, 1);
        x.ask(1, 2);
        x.ask(1, 2);
        x.ask(1, 2);
        x.setWork(2, 20, 0);
        x.setRoom(1, 2, 4, patience);
        x.call(0, 100);
        x.pass(1);
        return x;
    }

    private static int triesOfTheRoot(DeadlineCalls x) {
        int found = 0;
        for (int i = 0; i < x.calls(); i++) {
            found += x.origin(i) == 1001 ? 1 : 0;
        }
        return found;
    }

    private static void leastPatience() {
        DeadlineCalls x = waiting(1);
        Check.same("4 patience 1: one try at first", triesOfTheRoot(x), 1);
        x.pass(1);
        Check.same("4 patience 1: a second one a tick later", triesOfTheRoot(x), 2);
    }

    private static void mostPatience() {
        DeadlineCalls x = waiting(50);
        x.pass(49);
        Check.same("4 patience 50: one try for 49 ticks", triesOfTheRoot(x), 1);
        x.pass(1);
        Check.same("4 patience 50: a second one after 50", triesOfTheRoot(x), 2);
    }

    private static void noPatience() {
        DeadlineCalls x = waiting(0);
        x.pass(60);
        Check.same("4 patience 0: never a second one", triesOfTheRoot(x), 1);
    }

    private static void leastTicksOfACall() {
        DeadlineCalls x = new DeadlineCalls();
        int c = x.call(0, 1);
        Check.same("5 ticks 1: its deadline", x.deadline(c), 1);
        Check.same("5 ticks 1: as much as the work", x.state(c), DeadlineCalls.WORKING);
        Check.same("5 ticks 1: over with the next tick", x.pass(1), 1);
        Check.same("5 ticks 1: late", x.state(c), DeadlineCalls.LATE);
    }

    private static void mostTicksOfACall() {
        DeadlineCalls x = new DeadlineCalls();
        // Works of 20 up to 80, and one of 18 that would be ready with its deadline, at 98.
        x.ask(0, 1);
        x.ask(1, 2);
        x.ask(1, 2);
        x.ask(1, 3);
        x.setWork(0, 20, 0);
        x.setWork(1, 20, 0);
        x.setWork(2, 20, 0);
        x.setWork(3, 18, 0);
        int c = x.call(0, 100);
        Check.same("5 ticks 100: its deadline", x.deadline(c), 100);
        Check.same("5 ticks 100: it asks for 99 ticks", x.pass(99), 0);
        Check.same("5 ticks 100: asking", x.state(c), DeadlineCalls.ASKING);
        Check.same("5 ticks 100: over with the hundredth", x.pass(1), 1);
        Check.same("5 ticks 100: late", x.state(c), DeadlineCalls.LATE);
    }

    private static void leastAndMostTicksToPass() {
        DeadlineCalls one = new DeadlineCalls();
        DeadlineCalls hundred = new DeadlineCalls();
        for (DeadlineCalls x : new DeadlineCalls[] {one, hundred}) {
            x.ask(0, 1);
            x.setWork(1, 7, 3);
            x.setRoom(1, 1, 1, 4);
            crowd(x, 0, 5);
        }
        int over = 0;
        for (int i = 1; i <= 100; i++) {
            over += one.pass(1);
            Check.same("7 ticks 1: one at a time", one.time(), i);
        }
        Check.same("7 ticks 100: as many over as by 100 times 1", hundred.pass(100), over);
        Check.same("7 ticks 100: the same as 100 times 1", Readings.of(hundred), Readings.of(one));
    }

    private static void callsAreCountedFromZero() {
        DeadlineCalls x = new DeadlineCalls();
        Check.same("9 none at first", x.calls(), 0);
        for (int i = 0; i < 200; i++) {
            Check.same("5 number", x.call(i % 6, 1 + i % 100), i);
            Check.same("9 so many", x.calls(), i + 1);
        }
        Check.notNow("5 no call beyond the 200th", () -> x.call(0, 1));
        Check.same("9 200 at most", x.calls(), 200);
    }

    private static void lastOfTheCallsOfAnObject() {
        DeadlineCalls x = new DeadlineCalls();
        for (int i = 0; i < 508; i++) {
            x.pass(100);
        }
        Check.same("the 509th call of an object: the time", x.time(), 50800);
        int c = x.call(0, 100);
        Check.same("the 511th call of an object: the deadline", x.deadline(c), 50900);
        Check.same("the 512th call of an object", x.pass(1), 1);
    }

    private static void objectsAreApart() {
        DeadlineCalls x = new DeadlineCalls();
        DeadlineCalls y = new DeadlineCalls();
        x.setWork(0, 9, 1);
        x.ask(0, 1);
        x.setRoom(0, 1, 0, 1);
        x.call(0, 50);
        x.pass(10);
        Check.same("1 another object is new still", Readings.of(y), Readings.of(new DeadlineCalls()));
        Check.same("1 and has its own settings", y.setWork(0, 1, 0), 1);
        Check.same("1 and its own row", y.ask(0, 1), 1);
        Check.same("1 and its own workers", y.setRoom(0, 1, 1, 1), 2);
    }
}
