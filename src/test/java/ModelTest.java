import java.util.Random;

/** Long runs of calls, ordinary and wrong ones, on the class and on the model, side by side. */
final class ModelTest {
    private static final int RUNS = 200;
    private static final int CALLS_OF_A_RUN = 300;

    private final DeadlineCalls real = new DeadlineCalls();
    private final Model model = new Model();
    private final Random random;
    private final int kind;
    private boolean same = true;
    private final StringBuilder told = new StringBuilder();

    private ModelTest(int seed) {
        random = new Random(seed);
        kind = seed % 4;
    }

    static void run() {
        for (int seed = 0; seed < RUNS; seed++) {
            ModelTest test = new ModelTest(seed);
            for (int i = 0; i < CALLS_OF_A_RUN && test.same; i++) {
                if (test.step()) {
                    test.compareAll();
                }
            }
            Check.same("run " + seed + " is as the model's" + (test.same ? "" : "; calls: " + test.told), test.same, true);
        }
    }

    private void compare(String what, Check.Act ofReal, Check.Act ofModel) {
        String got = Check.answer(ofReal);
        String due = Check.answer(ofModel);
        if (!got.equals(due)) {
            same = false;
            told.append(what).append(" got ").append(got).append(", due is ").append(due).append("; ");
        }
    }

    /** A number mostly from least to most, now and then one beyond. */
    private int about(int least, int most) {
        if (random.nextInt(40) == 0) {
            return random.nextBoolean() ? least - 1 : most + 1;
        }
        return least + random.nextInt(most - least + 1);
    }

    /** One call on both; answers whether it may have changed something. */
    private boolean step() {
        int which = random.nextInt(100);
        if (which < 12) {
            int s = about(0, 5);
            int work = kind == 0 ? about(1, 20) : about(1, 4);
            int each = kind == 1 ? about(0, 3) : about(0, 20);
            told.append("setWork(" + s + "," + work + "," + each + ") ");
            compare("setWork", () -> real.setWork(s, work, each), () -> model.setWork(s, work, each));
        } else if (which < 20) {
            int s = about(0, 4);
            int other = random.nextInt(8) == 0 ? about(0, 5) : Math.min(5, s + 1 + random.nextInt(3));
            told.append("ask(" + s + "," + other + ") ");
            compare("ask", () -> real.ask(s, other), () -> model.ask(s, other));
        } else if (which < 30) {
            int s = about(0, 5);
            int workers = about(1, 5);
            int room = about(0, 8);
            int patience = kind == 2 ? about(0, 4) : about(0, 50);
            told.append("setRoom(" + s + "," + workers + "," + room + "," + patience + ") ");
            compare("setRoom", () -> real.setRoom(s, workers, room, patience), () -> model.setRoom(s, workers, room, patience));
        } else if (which < 62) {
            int s = random.nextInt(3) == 0 ? about(0, 5) : about(0, 1);
            int ticks = kind == 3 ? about(1, 15) : about(1, 100);
            told.append("call(" + s + "," + ticks + ") ");
            compare("call", () -> real.call(s, ticks), () -> model.call(s, ticks));
        } else if (which < 68) {
            int c = about(0, Math.max(0, model.items.size() - 1));
            told.append("cancel(" + c + ") ");
            compare("cancel", () -> real.cancel(c), () -> model.cancel(c));
        } else {
            int ticks = random.nextInt(12) == 0 ? about(1, 100) : about(1, 4);
            told.append("pass(" + ticks + ") ");
            compare("pass", () -> real.pass(ticks), () -> model.pass(ticks));
        }
        return which >= 30;
    }

    private void compareAll() {
        compare("time", real::time, () -> model.time);
        compare("calls", real::calls, () -> model.items.size());
        for (int i = -1; i <= model.items.size(); i++) {
            int c = i;
            compare("state " + c, () -> real.state(c), () -> model.state(c));
            compare("origin " + c, () -> real.origin(c), () -> model.origin(c));
            compare("deadline " + c, () -> real.deadline(c), () -> model.deadline(c));
            compare("overAt " + c, () -> real.overAt(c), () -> model.overAt(c));
            compare("place " + c, () -> real.place(c), () -> model.place(c));
            compare("below " + c, () -> real.below(c), () -> model.below(c));
        }
        for (int i = 0; i < 6; i++) {
            int s = i;
            compare("tokens " + s, () -> real.tokens(s), () -> model.tokens(s));
            compare("isOpen " + s, () -> real.isOpen(s), () -> model.isOpen(s));
            for (int j = -1; j < 10; j++) {
                int n = j;
                compare("count " + s + " " + n, () -> real.count(s, n), () -> model.count(s, n));
                compare("queuedAt " + s + " " + n, () -> real.queuedAt(s, n), () -> model.queuedAt(s, n));
            }
        }
    }
}
