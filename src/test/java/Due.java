import java.util.ArrayList;
import java.util.List;
import java.util.function.LongSupplier;

/** Compares answers with what is due, tells each that differs, and ends the test with 1 if there was one. */
final class Due {
    private static final int MOST_TOLD = 40;
    private static int compared = 0;
    private static final List<String> WRONG = new ArrayList<>();

    private Due() {
    }

    static void is(String what, long due, long got) {
        compared++;
        if (due != got) {
            wrong(what + " answered " + got + ", due is " + due);
        }
    }

    static void throwing(String what, Class<? extends RuntimeException> due, LongSupplier call) {
        compared++;
        try {
            long got = call.getAsLong();
            wrong(what + " answered " + got + ", due is " + due.getSimpleName());
        } catch (RuntimeException e) {
            if (e.getClass() != due) {
                wrong(what + " threw " + e + ", due is " + due.getSimpleName());
            }
        }
    }

    static void throwing(String what, Class<? extends RuntimeException> due, Runnable call) {
        throwing(what, due, () -> {
            call.run();
            return 0;
        });
    }

    static void wrong(String text) {
        WRONG.add(text);
        if (WRONG.size() <= MOST_TOLD) {
            System.out.println(text);
        }
    }

    static int wrongCount() {
        return WRONG.size();
    }

    static void end() {
        System.out.println(compared + " answers compared, " + WRONG.size() + " wrong");
        if (!WRONG.isEmpty()) {
            System.exit(1);
        }
    }
}
