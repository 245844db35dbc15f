/** All that can be read of an object as one text, and runs whose answers tell what can't be read. */
final class Readings {
    // An object answers 512 calls: after 200 to fill it this many are left for reading on.
    private static final int MOST_LOOKED_AT = 40;

    private Readings() {
    }

    static String of(DeadlineCalls x) {
        int calls = x.calls();
        StringBuilder told = new StringBuilder("time " + x.time() + ", calls " + calls);
        for (int i = 0; i < calls; i++) {
            told.append("; call ").append(i).append(':').append(x.state(i)).append(' ').append(x.origin(i));
            told.append(' ').append(x.deadline(i)).append(' ').append(x.overAt(i));
            told.append(' ').append(x.place(i)).append(' ').append(x.below(i));
        }
        for (int s = 0; s < 6; s++) {
            told.append("; service ").append(s).append(':').append(x.tokens(s)).append(' ').append(x.isOpen(s));
            for (int state = 0; state < 8; state++) {
                told.append(' ').append(x.count(s, state));
            }
            int queued = x.count(s, DeadlineCalls.QUEUED);
            for (int place = 0; place < queued; place++) {
                told.append(" q").append(x.queuedAt(s, place));
            }
        }
        return told.toString();
    }

    /** More calls than any service can take at once: tells workers, room, work, and the queue's order. */
    static String ofACrowd(DeadlineCalls x) {
        StringBuilder told = new StringBuilder();
        for (int s = 0; s < 6; s++) {
            int service = s;
            for (int i = 0; i < 14; i++) {
                told.append(Check.answer(() -> x.call(service, 30))).append(' ');
            }
            for (int state = 0; state < 8; state++) {
                told.append(x.count(s, state)).append(' ');
            }
        }
        return told + passing(x, 30);
    }

    /** One call of each service, with much time: tells rows, patience, and which works fail. */
    static String ofSingles(DeadlineCalls x) {
        StringBuilder told = new StringBuilder();
        for (int s = 0; s < 6; s++) {
            int service = s;
            told.append(Check.answer(() -> x.call(service, 90))).append(' ');
        }
        told.append(passing(x, 70));
        for (int s = 0; s < 6; s++) {
            int service = s;
            told.append(Check.answer(() -> x.ask(service, 5))).append(' ');
            told.append(x.setWork(s, 1, 0)).append(' ').append(x.setRoom(s, 1, 1, 1)).append("; ");
        }
        return told.toString();
    }

    private static String passing(DeadlineCalls x, int ticks) {
        StringBuilder told = new StringBuilder();
        for (int i = 0; i < ticks; i++) {
            told.append(x.pass(1)).append('/').append(x.calls()).append(' ');
        }
        int some = Math.min(MOST_LOOKED_AT, x.calls());
        for (int i = 0; i < some; i++) {
            told.append(x.overAt(i)).append(' ');
        }
        for (int s = 0; s < 6; s++) {
            told.append(x.tokens(s)).append(x.isOpen(s)).append(' ');
        }
        return told.toString();
    }
}
