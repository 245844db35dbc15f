import java.util.Random;

/**
 * Random runs of calls, ordinary and wrong ones, on the class and on the model, side by side.
 * A run is no longer than the 512 calls that the document promises of an object.
 */
final class ModelTest {
    private static final int RUNS = 3000;
    private static final int KINDS = 6;
    private static final int CALLS_OF_A_RUN = 512;
    private static final int LEFT_FOR_THE_END = 130;

    private final DeadlineCalls real = new DeadlineCalls();
    private final Model model = new Model();
    private final Random random;
    private final int kind;
    private int made = 0;
    private boolean same = true;
    private final StringBuilder told = new StringBuilder();

    private ModelTest(int seed) {
        random = new Random(seed);
        kind = seed % KINDS;
    }

    static void run() {
        for (int seed = 0; seed < RUNS; seed++) {
            ModelTest test = new ModelTest(seed);
            test.wholeRun();
            Check.same("run " + seed + " is as the model's" + (test.same ? "" : "; calls: " + test.told), test.same, true);
        }
    }

    private void wholeRun() {
        while (same && made < CALLS_OF_A_RUN - LEFT_FOR_THE_END) {
            change();
            if (random.nextInt(3) != 0) {
                read();
            }
        }
        while (same && made < CALLS_OF_A_RUN) {
            read();
        }
    }

    private void compare(String what, Check.Act ofReal, Check.Act ofModel) {
        made++;
        String got = Check.answer(ofReal);
        String due = Check.answer(ofModel);
        told.append(what).append(' ');
        if (!got.equals(due)) {
            same = false;
            told.append("got ").append(got).append(", due is ").append(due).append("; ");
        }
    }

    /** A number mostly from least to most, now and then one beyond. */
    private int about(int least, int most) {
        if (random.nextInt(40) == 0) {
            return random.nextBoolean() ? least - 1 : most + 1;
        }
        return least + random.nextInt(most - least + 1);
    }

    /** One call that may change something, on both. */
    private void change() {
        int which = random.nextInt(100);
        if (which < 12) {
            int s = about(0, 5);
            int work = kind == 0 ? about(1, 20) : about(1, 4);
            int each = kind == 1 ? about(0, 3) : about(0, 20);
            compare("setWork(" + s + "," + work + "," + each + ")", () -> real.setWork(s, work, each), () -> model.setWork(s, work, each));
        } else if (which < 20) {
            int s = about(0, 4);
            int other = random.nextInt(8) == 0 ? about(0, 5) : Math.min(5, s + 1 + random.nextInt(3));
            compare("ask(" + s + "," + other + ")", () -> real.ask(s, other), () -> model.ask(s, other));
        } else if (which < 30) {
            int s = about(0, 5);
            int workers = kind == 4 ? about(1, 2) : about(1, 5);
            int room = about(0, 8);
            int patience = kind == 2 || kind == 4 ? about(0, 4) : about(0, 50);
            compare("setRoom(" + s + "," + workers + "," + room + "," + patience + ")",
                    () -> real.setRoom(s, workers, room, patience), () -> model.setRoom(s, workers, room, patience));
        } else if (which < (kind == 5 ? 80 : 62)) {
            int s = random.nextInt(3) == 0 ? about(0, 5) : about(0, 1);
            int ticks = kind == 3 ? about(1, 15) : about(1, 100);
            compare("call(" + s + "," + ticks + ")", () -> real.call(s, ticks), () -> model.call(s, ticks));
        } else if (which < (kind == 5 ? 82 : 66)) {
            int c = someCall();
            compare("cancel(" + c + ")", () -> real.cancel(c), () -> model.cancel(c));
        } else {
            int ticks = random.nextInt(16) == 0 ? about(1, 100) : about(1, 4);
            compare("pass(" + ticks + ")", () -> real.pass(ticks), () -> model.pass(ticks));
        }
    }

    /** Mostly one of the last calls, for the earlier ones change no more. */
    private int someCall() {
        int calls = model.items.size();
        int from = random.nextInt(4) == 0 ? 0 : Math.max(0, calls - 12);
        return about(from, Math.max(from, calls - 1));
    }

    /** One call that reads, on both. */
    private void read() {
        int which = random.nextInt(100);
        int c = someCall();
        int s = about(0, 5);
        if (which < 4) {
            compare("time", real::time, () -> model.time);
        } else if (which < 14) {
            compare("calls", real::calls, () -> model.items.size());
        } else if (which < 34) {
            compare("state(" + c + ")", () -> real.state(c), () -> model.state(c));
        } else if (which < 42) {
            compare("origin(" + c + ")", () -> real.origin(c), () -> model.origin(c));
        } else if (which < 46) {
            compare("deadline(" + c + ")", () -> real.deadline(c), () -> model.deadline(c));
        } else if (which < 54) {
            compare("overAt(" + c + ")", () -> real.overAt(c), () -> model.overAt(c));
        } else if (which < 60) {
            compare("place(" + c + ")", () -> real.place(c), () -> model.place(c));
        } else if (which < 68) {
            compare("below(" + c + ")", () -> real.below(c), () -> model.below(c));
        } else if (which < 74) {
            int place = about(0, random.nextBoolean() ? 1 : 7);
            compare("queuedAt(" + s + "," + place + ")", () -> real.queuedAt(s, place), () -> model.queuedAt(s, place));
        } else if (which < 84) {
            int state = about(0, 7);
            compare("count(" + s + "," + state + ")", () -> real.count(s, state), () -> model.count(s, state));
        } else if (which < 92) {
            compare("tokens(" + s + ")", () -> real.tokens(s), () -> model.tokens(s));
        } else {
            compare("isOpen(" + s + ")", () -> real.isOpen(s), () -> model.isOpen(s));
        }
    }
}
