/**
 * "The first line of a method's throws clause that applies decides; a call that throws changes
 * nothing": each method with arguments just inside and just outside, in every combination.
 */
final class RefusedTest {
    private static final int LEAST = Integer.MIN_VALUE;
    private static final int GREATEST = Integer.MAX_VALUE;

    interface On {
        Object run(DeadlineCalls x);
    }

    private RefusedTest() {
    }

    static void run() {
        setWorkDecides();
        askDecides();
        setRoomDecides();
        callDecides();
        cancelDecides();
        passDecides();
        readingsOfCallsDecide();
        readingsOfServicesDecide();
        refusedChangesNothing();
        refusedWhenFullChangesNothing();
        readingChangesNothing();
    }

    private static boolean within(int value, int least, int most) {
        return value >= least && value <= most;
    }

    /** The first one that applies, as the throws clauses of the document stand. */
    private static String due(boolean noSuch, boolean outOfRange, boolean notNow, String otherwise) {
        if (noSuch) {
            return "throws.IndexOutOfBoundsException";
        }
        if (outOfRange) {
            return "throws.IllegalArgumentException";
        }
        return notNow ? "throws.IllegalStateException" : otherwise;
    }

    private static void setWorkDecides() {
        for (int service : new int[] {LEAST, -1, 0, 5, 6, GREATEST}) {
            for (int work : new int[] {LEAST, 0, 1, 20, 21, GREATEST}) {
                for (int each : new int[] {LEAST, -1, 0, 20, 21, GREATEST}) {
                    DeadlineCalls x = new DeadlineCalls();
                    boolean outOfRange = !within(work, 1, 20) || !within(each, 0, 20);
                    Check.same("2 setWork(" + service + ", " + work + ", " + each + ")",
                            Check.answer(() -> x.setWork(service, work, each)),
                            due(!within(service, 0, 5), outOfRange, false, "1"));
                }
            }
        }
    }

    private static void askDecides() {
        for (int asked = 0; asked <= 3; asked++) {
            for (int service : new int[] {LEAST, -1, 0, 1, 2, 3, 4, 5, 6, GREATEST}) {
                for (int other : new int[] {LEAST, -1, 0, 1, 2, 3, 4, 5, 6, GREATEST}) {
                    DeadlineCalls x = new DeadlineCalls();
                    for (int i = 0; i < asked; i++) {
                        for (int s = 0; s < 5; s++) {
                            x.ask(s, 5);
                        }
                    }
                    boolean noSuch = !within(service, 0, 5) || !within(other, 0, 5);
                    Check.same("3 asks " + asked + ", ask(" + service + ", " + other + ")",
                            Check.answer(() -> x.ask(service, other)),
                            due(noSuch, other <= service, asked == 3, String.valueOf(asked + 1)));
                }
            }
        }
    }

    private static void setRoomDecides() {
        for (int service : new int[] {LEAST, -1, 0, 5, 6, GREATEST}) {
            for (int workers : new int[] {LEAST, 0, 1, 5, 6, GREATEST}) {
                for (int room : new int[] {LEAST, -1, 0, 8, 9, GREATEST}) {
                    for (int patience : new int[] {LEAST, -1, 0, 50, 51, GREATEST}) {
                        DeadlineCalls x = new DeadlineCalls();
                        boolean outOfRange = !within(workers, 1, 5) || !within(room, 0, 8) || !within(patience, 0, 50);
                        Check.same("4 setRoom(" + service + ", " + workers + ", " + room + ", " + patience + ")",
                                Check.answer(() -> x.setRoom(service, workers, room, patience)),
                                due(!within(service, 0, 5), outOfRange, false, "2"));
                    }
                }
            }
        }
    }

    /** So many calls are there, all of them of service 0 and none of them asking. */
    private static DeadlineCalls with(int calls) {
        DeadlineCalls x = new DeadlineCalls();
        for (int i = 0; i < calls; i++) {
            x.call(0, 100);
        }
        return x;
    }

    private static void callDecides() {
        for (int calls : new int[] {0, 199, 200}) {
            for (int service : new int[] {LEAST, -1, 0, 5, 6, GREATEST}) {
                for (int ticks : new int[] {LEAST, -1, 0, 1, 100, 101, GREATEST}) {
                    DeadlineCalls x = with(calls);
                    Check.same("5 calls " + calls + ", call(" + service + ", " + ticks + ")",
                            Check.answer(() -> x.call(service, ticks)),
                            due(!within(service, 0, 5), !within(ticks, 1, 100), calls == 200, String.valueOf(calls)));
                }
            }
        }
    }

    /** Calls 0 and 3 are open roots, 1 and 4 their tries, open and over, 2 is a root that is over. */
    private static DeadlineCalls ofEachKind() {
        DeadlineCalls x = new DeadlineCalls();
        x.ask(0, 1);
        x.ask(2, 3);
        x.setWork(1, 20, 0);
        x.setWork(3, 20, 0);
        x.call(0, 90);
        x.pass(1);
        x.cancel(x.call(5, 90));
        x.call(2, 9);
        x.pass(1);
        return x;
    }

    private static void cancelDecides() {
        int[] states = {DeadlineCalls.ASKING, DeadlineCalls.WORKING, DeadlineCalls.CANCELLED, DeadlineCalls.ASKING, DeadlineCalls.DROPPED};
        String refused = "throws.IllegalStateException";
        String[] due = {"2", refused, refused, "1", refused};
        for (int i = 0; i < due.length; i++) {
            DeadlineCalls x = ofEachKind();
            int call = i;
            Check.same("6 state of call " + call, x.state(call), states[i]);
            Check.same("6 cancel(" + call + ")", Check.answer(() -> x.cancel(call)), due[i]);
        }
        for (int call : new int[] {LEAST, -1, 5, 199, 200, GREATEST}) {
            DeadlineCalls x = ofEachKind();
            Check.noSuch("6 cancel(" + call + ")", () -> x.cancel(call));
        }
        Check.noSuch("6 no calls, cancel(0)", () -> new DeadlineCalls().cancel(0));
        DeadlineCalls full = with(200);
        Check.noSuch("6 200 calls, cancel(200)", () -> full.cancel(200));
        Check.notNow("6 200 calls, the last one was dropped", () -> full.cancel(199));
        Check.same("6 200 calls, the first one works", full.cancel(0), 1);
    }

    private static void passDecides() {
        for (int ticks : new int[] {LEAST, -1, 0, 1, 100, 101, GREATEST}) {
            DeadlineCalls x = new DeadlineCalls();
            boolean right = within(ticks, 1, 100);
            Check.same("7 pass(" + ticks + ")", Check.answer(() -> x.pass(ticks)), due(false, !right, false, "0"));
            Check.same("7 the time after pass(" + ticks + ")", x.time(), right ? ticks : 0);
        }
    }

    private static void readingsOfCallsDecide() {
        for (int calls : new int[] {0, 1, 199, 200}) {
            DeadlineCalls x = with(calls);
            for (int call : new int[] {LEAST, -1, calls, 200, GREATEST}) {
                String what = " of " + call + ", calls " + calls;
                Check.noSuch("10 state" + what, () -> x.state(call));
                Check.noSuch("11 origin" + what, () -> x.origin(call));
                Check.noSuch("12 deadline" + what, () -> x.deadline(call));
                Check.noSuch("13 overAt" + what, () -> x.overAt(call));
                Check.noSuch("14 place" + what, () -> x.place(call));
                Check.noSuch("15 below" + what, () -> x.below(call));
            }
            if (calls > 0) {
                int last = calls - 1;
                boolean works = last < 2;
                Check.same("10 state of the last", x.state(last), works ? DeadlineCalls.WORKING : DeadlineCalls.DROPPED);
                Check.same("11 origin of the last", x.origin(last), 0);
                Check.same("12 deadline of the last", x.deadline(last), 100);
                Check.same("13 overAt of the last", x.overAt(last), works ? DeadlineCalls.NONE : 0);
                Check.same("14 place of the last", x.place(last), DeadlineCalls.NONE);
                Check.same("15 below the last", x.below(last), 0);
            }
        }
    }

    private static void readingsOfServicesDecide() {
        for (int service : new int[] {LEAST, -1, 0, 5, 6, GREATEST}) {
            DeadlineCalls x = new DeadlineCalls();
            boolean noSuch = !within(service, 0, 5);
            for (int state : new int[] {LEAST, -1, 0, 7, 8, GREATEST}) {
                Check.same("17 count(" + service + ", " + state + ")",
                        Check.answer(() -> x.count(service, state)), due(noSuch, !within(state, 0, 7), false, "0"));
            }
            for (int place : new int[] {LEAST, -1, 0, GREATEST}) {
                Check.noSuch("16 none is queued, queuedAt(" + service + ", " + place + ")", () -> x.queuedAt(service, place));
            }
            Check.same("18 tokens(" + service + ")", Check.answer(() -> x.tokens(service)), due(noSuch, false, false, "20"));
            Check.same("19 isOpen(" + service + ")", Check.answer(() -> x.isOpen(service)), due(noSuch, false, false, "false"));
        }
    }

    /** Calls in every state, rows empty, begun and full, a failure counted, a second try under way. */
    private static void history(DeadlineCalls x) {
        x.ask(0, 1);
        x.ask(0, 2);
        x.ask(0, 1);
        x.ask(1, 4);
        x.setWork(1, 2, 3);
        x.setWork(4, 6, 2);
        x.setRoom(0, 1, 2, 0);
        x.setRoom(4, 3, 1, 2);
        x.call(0, 80);
        x.call(0, 80);
        x.call(0, 80);
        x.call(0, 80);
        x.pass(6);
        x.cancel(2);
        x.call(4, 40);
    }

    private static void historyUntilFull(DeadlineCalls x) {
        history(x);
        for (int i = x.calls(); i < 200; i++) {
            x.call(5, 60);
        }
    }

    private static void nothingChanged(String what, boolean full, String exception, On call) {
        DeadlineCalls[] all = new DeadlineCalls[6];
        for (int i = 0; i < all.length; i++) {
            all[i] = new DeadlineCalls();
            if (full) {
                historyUntilFull(all[i]);
            } else {
                history(all[i]);
            }
        }
        for (int i = 0; i < 3; i++) {
            DeadlineCalls x = all[i];
            Check.same(what, Check.answer(() -> call.run(x)), "throws." + exception);
        }
        if (!full) {
            Check.same(what + " changes nothing", Readings.of(all[0]), Readings.of(all[3]));
        }
        Check.same(what + " changes nothing for a crowd", Readings.ofACrowd(all[1]), Readings.ofACrowd(all[4]));
        Check.same(what + " changes nothing for singles", Readings.ofSingles(all[2]), Readings.ofSingles(all[5]));
    }

    private static void noSuch(String what, On call) {
        nothingChanged(what, false, "IndexOutOfBoundsException", call);
    }

    private static void outOfRange(String what, On call) {
        nothingChanged(what, false, "IllegalArgumentException", call);
    }

    private static void notNow(String what, On call) {
        nothingChanged(what, false, "IllegalStateException", call);
    }

    private static void refusedChangesNothing() {
        refusedTellingChangesNothing();
        refusedCallChangesNothing();
        refusedReadingChangesNothing();
    }

    private static void refusedTellingChangesNothing() {
        noSuch("2 service -1", x -> x.setWork(-1, 9, 1));
        noSuch("2 service 6", x -> x.setWork(6, 9, 1));
        outOfRange("2 work 0", x -> x.setWork(4, 0, 1));
        outOfRange("2 work 21", x -> x.setWork(4, 21, 1));
        outOfRange("2 each -1", x -> x.setWork(4, 9, -1));
        outOfRange("2 each 21", x -> x.setWork(4, 9, 21));
        noSuch("3 service -1", x -> x.ask(-1, 5));
        noSuch("3 service 6", x -> x.ask(6, 5));
        noSuch("3 other -1", x -> x.ask(1, -1));
        noSuch("3 other 6", x -> x.ask(1, 6));
        outOfRange("3 itself", x -> x.ask(1, 1));
        outOfRange("3 one below", x -> x.ask(4, 3));
        notNow("3 asks 3", x -> x.ask(0, 5));
        noSuch("4 service -1", x -> x.setRoom(-1, 5, 8, 1));
        noSuch("4 service 6", x -> x.setRoom(6, 5, 8, 1));
        outOfRange("4 workers 0", x -> x.setRoom(4, 0, 8, 1));
        outOfRange("4 workers 6", x -> x.setRoom(4, 6, 8, 1));
        outOfRange("4 room -1", x -> x.setRoom(4, 5, -1, 1));
        outOfRange("4 room 9", x -> x.setRoom(4, 5, 9, 1));
        outOfRange("4 patience -1", x -> x.setRoom(4, 5, 8, -1));
        outOfRange("4 patience 51", x -> x.setRoom(4, 5, 8, 51));
    }

    private static void refusedCallChangesNothing() {
        noSuch("5 service -1", x -> x.call(-1, 9));
        noSuch("5 service 6", x -> x.call(6, 9));
        outOfRange("5 ticks 0", x -> x.call(5, 0));
        outOfRange("5 ticks 101", x -> x.call(5, 101));
        noSuch("6 call -1", x -> x.cancel(-1));
        noSuch("6 one too many", x -> x.cancel(x.calls()));
        notNow("6 one that is over", x -> x.cancel(2));
        notNow("6 a try", x -> x.cancel(4));
        outOfRange("7 ticks 0", x -> x.pass(0));
        outOfRange("7 ticks 101", x -> x.pass(101));
    }

    private static void refusedReadingChangesNothing() {
        noSuch("10 one too many", x -> x.state(x.calls()));
        noSuch("11 one too many", x -> x.origin(x.calls()));
        noSuch("12 one too many", x -> x.deadline(x.calls()));
        noSuch("13 one too many", x -> x.overAt(x.calls()));
        noSuch("14 one too many", x -> x.place(x.calls()));
        noSuch("15 one too many", x -> x.below(x.calls()));
        noSuch("16 service 6", x -> x.queuedAt(6, 0));
        noSuch("16 so many are not queued", x -> x.queuedAt(0, x.count(0, DeadlineCalls.QUEUED)));
        noSuch("17 service 6", x -> x.count(6, 0));
        outOfRange("17 state 8", x -> x.count(0, 8));
        noSuch("18 service 6", x -> x.tokens(6));
        noSuch("19 service 6", x -> x.isOpen(6));
    }

    private static void refusedWhenFullChangesNothing() {
        nothingChanged("5 full, one more", true, "IllegalStateException", x -> x.call(5, 60));
        nothingChanged("5 full, no ticks", true, "IllegalArgumentException", x -> x.call(5, 0));
        nothingChanged("5 full, service 6", true, "IndexOutOfBoundsException", x -> x.call(6, 0));
        nothingChanged("6 full, call 200", true, "IndexOutOfBoundsException", x -> x.cancel(200));
    }

    private static void readingChangesNothing() {
        DeadlineCalls twice = new DeadlineCalls();
        history(twice);
        String first = Readings.of(twice);
        Check.same("8 to 19 a second reading answers the same", Readings.of(twice), first);
        DeadlineCalls read = new DeadlineCalls();
        DeadlineCalls unread = new DeadlineCalls();
        history(read);
        history(unread);
        Readings.of(read);
        Check.same("8 to 19 reading changes nothing", Readings.ofSingles(read), Readings.ofSingles(unread));
    }
}
