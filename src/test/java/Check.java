/** Counts answers that are due and answers that are not, and tells of the latter. */
final class Check {
    private static int passed = 0;
    private static int failed = 0;

    interface Act {
        Object run();
    }

    private Check() {
    }

    static void same(String what, Object got, Object due) {
        if (due.equals(got)) {
            passed++;
        } else {
            failed++;
            System.out.println(what + ": got " + got + ", due is " + due);
        }
    }

    /** What a call answers: its value, or the name of what it throws behind "throws.". */
    static String answer(Act act) {
        try {
            return String.valueOf(act.run());
        } catch (RuntimeException e) {
            return "throws." + e.getClass().getSimpleName();
        }
    }

    static void noSuch(String what, Act act) {
        same(what, answer(act), "throws.IndexOutOfBoundsException");
    }

    static void outOfRange(String what, Act act) {
        same(what, answer(act), "throws.IllegalArgumentException");
    }

    static void notNow(String what, Act act) {
        same(what, answer(act), "throws.IllegalStateException");
    }

    /** Tells the sums on a line of their own and answers whether all was as due. */
    static boolean close() {
        System.out.println(passed + " passed, " + failed + " failed");
        return failed == 0 && passed > 0;
    }
}
