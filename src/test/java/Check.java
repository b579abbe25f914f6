/** Counts what holds and what does not, for all tests of one program. */
final class Check {
    interface Call {
        void run();
    }

    private static int passed = 0;
    private static int failed = 0;

    private Check() {
    }

    static void same(String what, long got, long due) {
        holds(what + " answered " + got + ", due is " + due, got == due);
    }

    static void holds(String what, boolean isTrue) {
        if (isTrue) {
            passed++;
        } else {
            failed++;
            System.out.println("WRONG: " + what);
        }
    }

    /**
     * The very class is compared, and where it was thrown: the machine's own exceptions are subclasses
     * of those that are due, and a library's come from its own frames, but only the program's count.
     */
    static void fails(String what, Class<? extends RuntimeException> due, Call call) {
        Class<?> got = null;
        boolean isOwn = false;
        try {
            call.run();
        } catch (RuntimeException e) {
            got = e.getClass();
            StackTraceElement[] frames = e.getStackTrace();
            isOwn = frames.length > 0 && frames[0].getClassName().startsWith("NetPoints");
        }
        holds(what + " threw " + got + ", due is " + due, got == due);
        holds(what + " threw by a throw of its own", isOwn);
    }

    static void finish() {
        System.out.println(passed + " passed, " + failed + " failed");
        if (failed != 0 || passed == 0) {
            System.exit(1);
        }
    }
}
