/** Counts what was checked; a test ends with end(), which exits with 1 if a check failed. */
final class Check {
    private static int passed = 0;
    private static int failed = 0;
    private static String within = "";

    private Check() {
    }

    static void same(String what, long want, long got) {
        note(want == got, what + ": due is " + want + ", got " + got);
    }

    static void isTrue(String what, boolean holds) {
        note(holds, what);
    }

    /** Runs a test of its own: it must check something, throw nothing, and fail nothing. */
    static void within(String name, Runnable test) {
        int passedBefore = passed;
        int failedBefore = failed;
        within = name + "\n    ";
        try {
            test.run();
            isTrue("nothing is checked", passed + failed > passedBefore + failedBefore);
        } catch (RuntimeException e) {
            isTrue("threw " + e, false);
        }
        within = "";
    }

    /** The call throws just this exception and leaves the digest as it was. */
    static void refused(String what, BakeTurns x, Class<? extends RuntimeException> want, Runnable call) {
        long before = x.digest();
        Class<?> got = null;
        try {
            call.run();
        } catch (RuntimeException e) {
            got = e.getClass();
        }
        note(got == want, what + ": due is " + want.getName() + ", got " + (got == null ? "nothing" : got.getName()));
        note(x.digest() == before, what + ": a call that throws changed the state");
    }

    static void outOfBounds(String what, BakeTurns x, Runnable call) {
        refused(what, x, IndexOutOfBoundsException.class, call);
    }

    static void badArgument(String what, BakeTurns x, Runnable call) {
        refused(what, x, IllegalArgumentException.class, call);
    }

    static void badState(String what, BakeTurns x, Runnable call) {
        refused(what, x, IllegalStateException.class, call);
    }

    private static void note(boolean holds, String what) {
        if (holds) {
            passed++;
        } else {
            failed++;
            if (failed <= 50) {
                System.out.println(within + what);
            }
        }
    }

    static void end() {
        System.out.println("checks: " + passed + " held, " + failed + " did not");
        if (failed != 0 || passed == 0) {
            System.exit(1);
        }
    }
}
