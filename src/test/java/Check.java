import java.util.function.Supplier;

/** Counts what a test expects and what it gets; prints what is not as it should be. */
final class Check {
    static int passed = 0;
    static int failed = 0;

    private Check() {
    }

    static void same(String what, Object wanted, Object got) {
        if (wanted.equals(got)) {
            passed++;
        } else {
            failed++;
            System.out.println(what + ": " + got + ", due is " + wanted);
        }
    }

    /** What a call answers as a text: its value, or the name of what it throws. */
    static String answer(Supplier<Object> call) {
        try {
            return String.valueOf(call.get());
        } catch (RuntimeException e) {
            return e.getClass().getSimpleName();
        }
    }

    static void outOfBounds(String what, Supplier<Object> call) {
        same(what, "IndexOutOfBoundsException", answer(call));
    }

    static void badArgument(String what, Supplier<Object> call) {
        same(what, "IllegalArgumentException", answer(call));
    }

    static void badState(String what, Supplier<Object> call) {
        same(what, "IllegalStateException", answer(call));
    }

    static void finish(String test) {
        System.out.println(test + ": " + passed + " passed, " + failed + " failed");
        if (failed > 0) {
            System.exit(1);
        }
    }
}
