import java.util.function.Consumer;
import java.util.function.ObjIntConsumer;
import java.util.function.Supplier;

/** Counts what holds and what does not, for all tests of one program. */
final class Check {
    static final Class<IndexOutOfBoundsException> INDEX = IndexOutOfBoundsException.class;
    static final Class<IllegalArgumentException> ARGUMENT = IllegalArgumentException.class;
    static final Class<IllegalStateException> STATE = IllegalStateException.class;

    interface Call {
        void run();
    }

    private static int passed = 0;
    private static int failed = 0;
    private static String sentence = "";

    private Check() {
    }

    /** The sentence of the document that the checks from here on are about. */
    static void sentence(String text) {
        sentence = text + " | ";
    }

    static void same(String what, long got, long due) {
        holds(what + " answered " + got + ", due is " + due, got == due);
    }

    static void holds(String what, boolean isTrue) {
        if (isTrue) {
            passed++;
        } else {
            failed++;
            System.out.println("WRONG: " + sentence + what);
        }
    }

    /**
     * The very class is compared, and where it was thrown: the machine's own exceptions are subclasses
     * of those that are due, and a library's come from its own frames, but only the program's count.
     */
    static void fails(String what, Class<? extends RuntimeException> due, Call call) {
        Class<?> got = null;
        boolean isOwn = false;
        try {
            call.run();
        } catch (RuntimeException e) {
            got = e.getClass();
            StackTraceElement[] frames = e.getStackTrace();
            isOwn = frames.length > 0 && frames[0].getClassName().startsWith("NetPoints");
        }
        holds(what + " threw " + got + ", due is " + due, got == due);
        holds(what + " threw by a throw of its own", isOwn);
    }

    static void takes(String what, Call call) {
        Class<?> got = null;
        try {
            call.run();
        } catch (RuntimeException e) {
            got = e.getClass();
        }
        holds(what + " threw " + got + ", due is an answer", got == null);
    }

    /** The call throws, and leaves the object like one that was made alike and never got the call. */
    static void refuses(String what, Class<? extends RuntimeException> due, Supplier<NetPoints> start,
            Consumer<NetPoints> call) {
        NetPoints asked = start.get();
        fails(what, due, () -> call.accept(asked));
        String after = Told.everything(asked);
        String untouched = Told.everything(start.get());
        holds(what + " changed something: " + after + " for " + untouched, after.equals(untouched));
    }

    /** The least and the greatest argument are taken; those beyond are refused and change nothing. */
    static void bounds(String what, Class<? extends RuntimeException> due, int least, int most,
            Supplier<NetPoints> start, ObjIntConsumer<NetPoints> call) {
        for (int good : new int[] {least, most}) {
            NetPoints asked = start.get();
            takes(what + " " + good, () -> call.accept(asked, good));
        }
        for (int bad : new int[] {least - 1, most + 1, Integer.MIN_VALUE, Integer.MAX_VALUE}) {
            refuses(what + " " + bad, due, start, x -> call.accept(x, bad));
        }
    }

    /** For tries of every mix of good and bad arguments: each bit of the mask makes one of them bad. */
    static int[] mix(int mask, int[] good, int[] bad) {
        int[] mixed = good.clone();
        for (int i = 0; i < good.length; i++) {
            mixed[i] = (mask >> i & 1) == 0 ? good[i] : bad[i];
        }
        return mixed;
    }

    static void finish() {
        System.out.println(passed + " passed, " + failed + " failed");
        if (failed != 0 || passed == 0) {
            System.exit(1);
        }
    }
}
