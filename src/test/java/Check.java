/** Counts what is as it should be, and prints what is not. */
final class Check {
    private static int passed = 0;
    private static int failed = 0;
    private static String prefix = "";

    private Check() {
    }

    static void is(String what, long got, long due) {
        count(got == due, what + " answered " + got + ", due is " + due);
    }

    static void is(String what, boolean got, boolean due) {
        count(got == due, what + " answered " + got + ", due is " + due);
    }

    static void outOfBounds(String what, Runnable call) {
        throwsJust(what, IndexOutOfBoundsException.class, call);
    }

    static void badArgument(String what, Runnable call) {
        throwsJust(what, IllegalArgumentException.class, call);
    }

    static void badState(String what, Runnable call) {
        throwsJust(what, IllegalStateException.class, call);
    }

    static void throwsJust(String what, Class<?> due, Runnable call) {
        Class<?> thrown = null;
        try {
            call.run();
        } catch (RuntimeException e) {
            thrown = e.getClass();
        }
        count(thrown == due, what + " threw " + thrown + ", due is " + due);
    }

    static void count(boolean right, String whenWrong) {
        if (right) {
            passed++;
        } else {
            failed++;
            if (failed <= 50) {
                System.out.println(prefix + whenWrong);
            }
        }
    }

    /** What is wrong from now on is printed with the name of a test ahead of it. */
    static void beginTest(String name) {
        prefix = name + ": ";
    }

    static int checks() {
        return passed + failed;
    }

    /** Prints the counts, and ends the run with 1 if something was wrong. */
    static void finish(String test) {
        System.out.println(test + ": " + passed + " passed, " + failed + " failed");
        if (failed > 0) {
            System.exit(1);
        }
    }
}
