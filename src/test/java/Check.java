/** Counts what holds and what does not, for all tests of one program. */
final class Check {
    interface Call {
        void run();
    }

    private static int passed = 0;
    private static int failed = 0;

    private Check() {
    }

    static void same(String what, long got, long due) {
        holds(what + " answered " + got + ", due is " + due, got == due);
    }

    static void holds(String what, boolean isTrue) {
        if (isTrue) {
            passed++;
        } else {
            failed++;
            System.out.println("WRONG: " + what);
        }
    }

    /** The very class is compared: a machine's exception is often a subclass of the one that is due. */
    static void fails(String what, Class<? extends RuntimeException> due, Call call) {
        Class<?> got = null;
        try {
            call.run();
        } catch (RuntimeException e) {
            got = e.getClass();
        }
        holds(what + " threw " + got + ", due is " + due, got == due);
    }

    static void finish() {
        System.out.println(passed + " passed, " + failed + " failed");
        if (failed != 0 || passed == 0) {
            System.exit(1);
        }
    }
}
