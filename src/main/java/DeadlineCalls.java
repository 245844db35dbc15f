/** A layer of calls between services with deadlines that shrink. README.md says how to use it. */
public final class DeadlineCalls {
    public static final int NONE = -1;
    public static final int QUEUED = 0, WORKING = 1, ASKING = 2, DONE = 3, FAILED = 4, LATE = 5, DROPPED = 6, CANCELLED = 7;

    private static final int STATES = 8;
    private static final int SERVICES = 6;
    private static final int MOST_CALLS = 200;
    private static final int MOST_ASKED = 3;
    private static final int MOST_WORK = 20;
    private static final int MOST_EACH = 20;
    private static final int MOST_WORKERS = 5;
    private static final int MOST_ROOM = 8;
    private static final int MOST_PATIENCE = 50;
    private static final int MOST_TICKS = 100;
    private static final int FIRST_TOKENS = 20;
    private static final int MOST_TOKENS = 50;
    private static final int TOKENS_TO_TRY_AGAIN = 10;
    private static final int MOST_TRIES_AGAIN = 2;
    private static final int TROUBLES_TO_OPEN = 3;
    private static final int TICKS_OPEN = 20;
    private static final int ORIGIN_OF_A_SERVICE = 1000;

    private final Service[] services = new Service[SERVICES];
    private final Call[] numbered = new Call[MOST_CALLS];
    private int made;
    private int now;
    private int rootsOver;

    // The chain of calls by rising numbers. Its head may be cut off once it is over, so that
    // a tick does not look at calls that can't change any more.
    private Call oldest;
    private Call newest;

    public DeadlineCalls() {
        for (int i = 0; i < services.length; i++) {
            services[i] = new Service(i);
        }
    }

    // ---- services

    public int setWork(int service, int work, int each) throws IndexOutOfBoundsException, IllegalArgumentException {
        Service told = serviceAt(service);
        checkRange(work, 1, MOST_WORK);
        checkRange(each, 0, MOST_EACH);
        int before = told.work;
        told.work = work;
        told.each = each;
        told.worked = 0;
        return before;
    }

    public int ask(int service, int other) throws IndexOutOfBoundsException, IllegalArgumentException, IllegalStateException {
        Service asking = serviceAt(service);
        Service asked = serviceAt(other);
        if (other <= service) {
            throw new IllegalArgumentException("a service asks services above it alone");
        }
        if (!asking.addToRow(asked)) {
            throw new IllegalStateException("the service asks 3 already");
        }
        return asking.rowLength;
    }

    public int setRoom(int service, int workers, int room, int patience) throws IndexOutOfBoundsException, IllegalArgumentException {
        Service told = serviceAt(service);
        checkRange(workers, 1, MOST_WORKERS);
        checkRange(room, 0, MOST_ROOM);
        checkRange(patience, 0, MOST_PATIENCE);
        int before = told.workers;
        told.workers = workers;
        told.room = room;
        told.patience = patience;
        return before;
    }

    // ---- calls

    public int call(int service, int ticks) throws IndexOutOfBoundsException, IllegalArgumentException, IllegalStateException {
        Service called = serviceAt(service);
        checkRange(ticks, 1, MOST_TICKS);
        if (isFull()) {
            throw new IllegalStateException("there are 200 calls");
        }
        Call root = makeCall(called, null, now + ticks);
        begin(root);
        return root.number;
    }

    public int cancel(int call) throws IndexOutOfBoundsException, IllegalStateException {
        Call root = callAt(call);
        if (root.isOver() || root.parent != null) {
            throw new IllegalStateException("the call is over, or no root");
        }
        return 1 + finish(root, CANCELLED);
    }

    public int pass(int ticks) throws IllegalArgumentException {
        checkRange(ticks, 1, MOST_TICKS);
        int before = rootsOver;
        for (int i = 0; i < ticks; i++) {
            now++;
            cutOffHead();
            endLate();
            endWork();
            judgeAsking();
            makeTries();
            startQueued();
        }
        return rootsOver - before;
    }

    // ---- as it is

    public int time() {
        return now;
    }

    public int calls() {
        return made;
    }

    public int state(int call) throws IndexOutOfBoundsException {
        return callAt(call).state;
    }

    public int origin(int call) throws IndexOutOfBoundsException {
        Call known = callAt(call);
        int parent = known.parent == null ? 0 : known.parent.number + 1;
        return ORIGIN_OF_A_SERVICE * known.service.number + parent;
    }

    public int deadline(int call) throws IndexOutOfBoundsException {
        return callAt(call).deadline;
    }

    public int overAt(int call) throws IndexOutOfBoundsException {
        return callAt(call).overAt;
    }

    public int place(int call) throws IndexOutOfBoundsException {
        Call known = callAt(call);
        return known.state == ASKING ? known.place : NONE;
    }

    public int below(int call) throws IndexOutOfBoundsException {
        Call top = callAt(call);
        int open = 0;
        for (Call c = top.next; c != null; c = c.next) {
            if (!c.isOver() && c.isBelow(top)) {
                open++;
            }
        }
        return open;
    }

    public int queuedAt(int service, int place) throws IndexOutOfBoundsException {
        Service asked = serviceAt(service);
        int ahead = 0;
        for (Call c = oldest; c != null; c = c.next) {
            if (c.isOf(asked, QUEUED)) {
                if (ahead == place) {
                    return c.number;
                }
                ahead++;
            }
        }
        throw new IndexOutOfBoundsException("so many are not queued");
    }

    public int count(int service, int state) throws IndexOutOfBoundsException, IllegalArgumentException {
        Service asked = serviceAt(service);
        checkRange(state, QUEUED, CANCELLED);
        return asked.countOf(state);
    }

    public int tokens(int service) throws IndexOutOfBoundsException {
        return serviceAt(service).tokens;
    }

    public boolean isOpen(int service) throws IndexOutOfBoundsException {
        return serviceAt(service).refusesAt(now);
    }

    // ---- what the arguments name

    private Service serviceAt(int number) {
        Service found = number >= 0 && number < services.length ? services[number] : null;
        if (found == null) {
            throw new IndexOutOfBoundsException("no such service");
        }
        return found;
    }

    private Call callAt(int number) {
        Call found = number >= 0 && number < numbered.length ? numbered[number] : null;
        if (found == null) {
            throw new IndexOutOfBoundsException("no such call");
        }
        return found;
    }

    private static void checkRange(int value, int least, int most) {
        if (value < least || value > most) {
            throw new IllegalArgumentException("an argument is out of range");
        }
    }

    // ---- how calls begin and end

    private boolean isFull() {
        return made >= numbered.length;
    }

    /** Callers ask isFull first; a call beyond the limit would not be numbered. */
    private Call makeCall(Service service, Call parent, int deadline) {
        Call call = new Call(made, service, parent, deadline);
        if (made < numbered.length) {
            numbered[made] = call;
            made++;
        }
        call.previous = newest;
        if (newest == null) {
            oldest = call;
        } else {
            newest.next = call;
        }
        newest = call;
        return call;
    }

    private void begin(Call call) {
        Service service = call.service;
        if (service.refusesAt(now)) {
            finish(call, FAILED);
        } else if (!call.canBeDone(now)) {
            finish(call, DROPPED);
        } else if (service.hasFreeWorker()) {
            startWork(call);
        } else if (service.hasRoom()) {
            call.become(QUEUED);
        } else {
            finish(call, DROPPED);
        }
    }

    private void startWork(Call call) {
        call.become(WORKING);
        call.readyAt = now + call.service.work;
    }

    /** Ends a call, cancels the open ones below it, and returns how many those were. */
    private int finish(Call call, int state) {
        close(call, state);
        int cancelled = 0;
        // A parent has a smaller number than the calls that it made, so one way along the
        // chain meets each parent ahead of its calls, and reaches every depth.
        for (Call c = call.next; c != null; c = c.next) {
            if (!c.isOver() && c.parent != null && c.parent.isOver()) {
                close(c, CANCELLED);
                cancelled++;
            }
        }
        return cancelled;
    }

    private void close(Call call, int state) {
        call.become(state);
        call.overAt = now;
        if (state == DONE) {
            call.service.noteDone();
        }
        if (call.parent == null) {
            rootsOver++;
        } else {
            call.parent.noteTryOver(state);
        }
    }

    // ---- the steps of a tick

    private void cutOffHead() {
        Call head = oldest;
        while (head != null && head.isOver()) {
            head = head.next;
        }
        oldest = head;
        if (head == null) {
            newest = null;
        } else {
            head.previous = null;
        }
    }

    private void endLate() {
        for (Call c = oldest; c != null; c = c.next) {
            if (!c.isOver() && c.deadline <= now) {
                finish(c, LATE);
                c.service.noteTrouble(now);
            }
        }
    }

    private void endWork() {
        for (Call c = oldest; c != null; c = c.next) {
            if (c.state == WORKING && c.readyAt <= now) {
                if (c.service.failsNextWork()) {
                    finish(c, FAILED);
                    c.service.noteTrouble(now);
                } else {
                    c.rowLength = c.service.rowLength;
                    askAt(c, 0);
                }
            }
        }
    }

    private void askAt(Call call, int place) {
        Service asked = call.rowAt(place);
        if (asked == null) {
            finish(call, DONE);
        } else {
            call.askNow(asked, place);
        }
    }

    private void judgeAsking() {
        for (Call c = newest; c != null; c = c.previous) {
            Service asked = c.asked;
            if (c.state == ASKING && !c.wantsTry && asked != null) {
                judge(c, asked);
            }
        }
    }

    private void judge(Call call, Service asked) {
        if (call.isAnswered) {
            cancelTries(call);
            askAt(call, call.place + 1);
        } else if (call.openTries == 0) {
            tryAgain(call, asked);
        } else if (call.tries == 1 && asked.isTooLong(now - call.triedAt)) {
            call.wantsTry = true;
        }
    }

    private void cancelTries(Call call) {
        for (Call c = call.next; c != null; c = c.next) {
            if (c.parent == call && !c.isOver()) {
                finish(c, CANCELLED);
            }
        }
    }

    private void tryAgain(Call call, Service asked) {
        if (call.triesAgain < MOST_TRIES_AGAIN && asked.payForTry()) {
            call.triesAgain++;
            call.wantsTry = true;
        } else {
            finish(call, FAILED);
        }
    }

    private void makeTries() {
        // The chain grows on the way; those that ask were there ahead of this.
        Call last = newest;
        for (Call c = oldest; c != null; c = c.next) {
            Service asked = c.asked;
            if (c.state == ASKING && c.wantsTry && asked != null) {
                makeTry(c, asked);
            }
            if (c == last) {
                break;
            }
        }
    }

    private void makeTry(Call call, Service asked) {
        call.wantsTry = false;
        if (isFull()) {
            finish(call, FAILED);
            return;
        }
        // Noted ahead of its beginning, which may end it at once.
        call.noteTry(now);
        begin(makeCall(asked, call, call.deadline - 1));
    }

    private void startQueued() {
        for (int i = 0; i < services.length; i++) {
            Service service = services[i];
            if (service != null && service.countOf(QUEUED) > 0) {
                startQueuedOf(service);
            }
        }
    }

    private void startQueuedOf(Service service) {
        // Calls are queued by rising numbers, so the chain has them in the order of the queue.
        for (Call c = oldest; c != null && service.hasFreeWorker(); c = c.next) {
            if (c.isOf(service, QUEUED)) {
                if (c.canBeDone(now)) {
                    startWork(c);
                } else {
                    finish(c, DROPPED);
                }
            }
        }
    }

    private static final class Service {
        final int number;
        int work = 1;
        int each;
        int worked;
        int workers = 2;
        int room = 4;
        int patience;
        int tokens = FIRST_TOKENS;
        int troubles;
        int openUntil;
        final Service[] row = new Service[MOST_ASKED];
        int rowLength;
        final int[] counts = new int[STATES];

        Service(int number) {
            this.number = number;
        }

        boolean addToRow(Service other) {
            if (rowLength >= row.length) {
                return false;
            }
            row[rowLength] = other;
            rowLength++;
            return true;
        }

        int countOf(int state) {
            return state >= 0 && state < counts.length ? counts[state] : 0;
        }

        boolean hasFreeWorker() {
            return countOf(WORKING) < workers;
        }

        boolean hasRoom() {
            return countOf(QUEUED) < room;
        }

        boolean refusesAt(int time) {
            return time < openUntil;
        }

        boolean failsNextWork() {
            worked++;
            return each > 0 && worked % each == 0;
        }

        boolean isTooLong(int ticks) {
            return patience > 0 && ticks >= patience;
        }

        boolean payForTry() {
            if (tokens < TOKENS_TO_TRY_AGAIN) {
                return false;
            }
            tokens -= TOKENS_TO_TRY_AGAIN;
            return true;
        }

        void noteDone() {
            if (tokens < MOST_TOKENS) {
                tokens++;
            }
            troubles = 0;
        }

        void noteTrouble(int time) {
            troubles++;
            if (troubles >= TROUBLES_TO_OPEN) {
                troubles = 0;
                openUntil = time + TICKS_OPEN;
            }
        }
    }

    private static final class Call {
        final int number;
        final Service service;
        final Call parent;
        final int deadline;
        int state = NONE;
        int overAt = NONE;
        int readyAt;
        Call previous;
        Call next;

        // A row only grows, so its length when the call came to be ASKING keeps the row of then.
        int rowLength;
        int place;
        Service asked;
        boolean wantsTry;

        // Tries for the present place of the row; those for places before it are all over.
        boolean isAnswered;
        int tries;
        int openTries;
        int triesAgain;
        int triedAt;

        Call(int number, Service service, Call parent, int deadline) {
            this.number = number;
            this.service = service;
            this.parent = parent;
            this.deadline = deadline;
        }

        boolean isOver() {
            return state >= DONE;
        }

        boolean isOf(Service wanted, int inState) {
            return service == wanted && state == inState;
        }

        boolean isBelow(Call top) {
            for (Call c = parent; c != null; c = c.parent) {
                if (c == top) {
                    return true;
                }
            }
            return false;
        }

        boolean canBeDone(int time) {
            return deadline - time >= service.work;
        }

        void become(int newState) {
            int[] counts = service.counts;
            if (state >= 0 && state < counts.length) {
                counts[state]--;
            }
            if (newState >= 0 && newState < counts.length) {
                counts[newState]++;
            }
            state = newState;
        }

        Service rowAt(int wanted) {
            Service[] row = service.row;
            return wanted >= 0 && wanted < rowLength && wanted < row.length ? row[wanted] : null;
        }

        void askNow(Service other, int newPlace) {
            become(ASKING);
            asked = other;
            place = newPlace;
            wantsTry = true;
            isAnswered = false;
            tries = 0;
            triesAgain = 0;
        }

        void noteTry(int time) {
            tries++;
            openTries++;
            triedAt = time;
        }

        void noteTryOver(int how) {
            openTries--;
            if (how == DONE) {
                isAnswered = true;
            }
        }
    }
}
