import java.util.function.LongSupplier;

/** Counts and prints the calls whose answer is not the one that is due. */
final class Check {
    private static int checks = 0;
    private static int wrong = 0;

    private Check() {
    }

    static void due(String call, long want, LongSupplier body) {
        compare(call, Long.toString(want), answer(body));
    }

    static void passes(String call, Runnable body) {
        compare(call, "0", answer(body));
    }

    /** An IllegalArgumentException, after which no trap is told. */
    static void illegal(PagedMemory x, String call, Runnable body) {
        compare(call, "throws.IllegalArgumentException", answer(body));
        compare(call + ", then trap()", "0", answer(x::trap));
    }

    static void traps(PagedMemory x, int number, String call, Runnable body) {
        compare(call, "throws.UnsupportedOperationException", answer(body));
        compare(call + ", then trap()", Integer.toString(number), answer(x::trap));
    }

    static String answer(Runnable body) {
        return answer(() -> {
            body.run();
            return 0;
        });
    }

    /** The name is that of the very class, so that a subclass thrown by the Java machine is told apart. */
    static String answer(LongSupplier body) {
        try {
            return Long.toString(body.getAsLong());
        } catch (RuntimeException e) {
            return "throws." + e.getClass().getSimpleName();
        }
    }

    static void compare(String call, String want, String got) {
        checks++;
        if (!want.equals(got)) {
            wrong++;
            System.out.println(call + " answered " + got + ", due is " + want);
        }
    }

    static void finish() {
        System.out.println(checks + " answers looked at, " + wrong + " wrong");
        if (wrong != 0 || checks == 0) {
            System.exit(1);
        }
    }
}
