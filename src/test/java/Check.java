import java.util.function.BiConsumer;
import java.util.function.Consumer;
import java.util.function.LongSupplier;
import java.util.function.Supplier;
import java.util.function.ToLongFunction;

/** Counts and prints the calls whose answer is not the one that is due. */
final class Check {
    private static int checks = 0;
    private static int wrong = 0;
    private static String sentence = "";

    private Check() {
    }

    /** Tests that each name their own sentence; one that can't go on doesn't keep the others from running. */
    static void each(Runnable... tests) {
        for (Runnable test : tests) {
            sentence = "";
            int before = checks;
            try {
                test.run();
            } catch (RuntimeException e) {
                wrong(e + " ended the test at " + e.getStackTrace()[0]);
            }
            if (sentence.isEmpty() || checks == before) {
                wrong("a test without a sentence, or without an answer");
            }
        }
        sentence = "";
    }

    /** The words of the document that the test is about. */
    static void sentence(String words) {
        sentence = words;
    }

    static void due(String call, long want, LongSupplier body) {
        compare(call, Long.toString(want), answer(body));
    }

    static void passes(String call, Runnable body) {
        compare(call, "0", answer(body));
    }

    /** A call on which nothing is beyond an end, as trap() then says too. */
    static void passes(PagedMemory x, String call, Runnable body) {
        passes(call, body);
        compare(call + ", then trap()", "0", answer(x::trap));
    }

    /** An IllegalArgumentException, after which no trap is told. */
    static void illegal(PagedMemory x, String call, Runnable body) {
        compare(call, "throws.IllegalArgumentException", answer(body));
        compare(call + ", then trap()", "0", answer(x::trap));
    }

    static void traps(PagedMemory x, int number, String call, Runnable body) {
        compare(call, "throws.UnsupportedOperationException", answer(body));
        compare(call + ", then trap()", Integer.toString(number), answer(x::trap));
    }

    /** The call answers -1, and the object is then as one on which it was not made. */
    static void refused(String call, Supplier<PagedMemory> made, ToLongFunction<PagedMemory> body) {
        PagedMemory x = made.get();
        due(call, -1, () -> body.applyAsLong(x));
        unchanged(call, made, x);
    }

    /** As refused, for a call that throws an IllegalArgumentException. */
    static void illegal(String call, Supplier<PagedMemory> made, Consumer<PagedMemory> body) {
        PagedMemory x = made.get();
        illegal(x, call, () -> body.accept(x));
        unchanged(call, made, x);
    }

    /** As refused, for a call that is a TRAP with this number. */
    static void traps(int number, String call, Supplier<PagedMemory> made, Consumer<PagedMemory> body) {
        PagedMemory x = made.get();
        traps(x, number, call, () -> body.accept(x));
        unchanged(call, made, x);
    }

    /** A call on the last one of an object that has as many as there may be, and on the one behind it. */
    static void lastOfAll(int last, String call, BiConsumer<PagedMemory, Integer> body) {
        PagedMemory x = Made.full();
        passes(x, call + last, () -> body.accept(x, last));
        illegal(x, call + (last + 1), () -> body.accept(x, last + 1));
    }

    private static void unchanged(String call, Supplier<PagedMemory> made, PagedMemory x) {
        compare(call + ", then all that can be read", Snapshot.of(made.get()), Snapshot.of(x));
    }

    static String answer(Runnable body) {
        return answer(() -> {
            body.run();
            return 0;
        });
    }

    /** The name is that of the very class, so that a subclass thrown by the Java machine is told apart. */
    static String answer(LongSupplier body) {
        try {
            return Long.toString(body.getAsLong());
        } catch (RuntimeException e) {
            return "throws." + e.getClass().getSimpleName();
        }
    }

    static void compare(String call, String want, String got) {
        checks++;
        if (!want.equals(got)) {
            wrong(call + " answered " + got + ", due is " + want);
        }
    }

    private static void wrong(String what) {
        wrong++;
        System.out.println((sentence.isEmpty() ? "" : "[" + sentence + "] ") + what);
    }

    static void finish() {
        System.out.println(checks + " answers looked at, " + wrong + " wrong");
        if (wrong != 0 || checks == 0) {
            System.exit(1);
        }
    }
}
