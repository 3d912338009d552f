import java.util.ArrayList;
import java.util.List;
import java.util.function.LongSupplier;

/** Compares answers with what is due, tells each that differs, and ends the test with 1 if there was one. */
final class Due {
    private static final int MOST_TOLD = 40;
    private static int compared = 0;
    private static final List<String> WRONG = new ArrayList<>();
    private static String sentence = "";

    private Due() {
    }

    /** A test of one sentence of the document; what is wrong in it is told with the sentence. */
    static void sentence(String words, Runnable test) {
        sentence = "'" + words + "': ";
        int before = compared;
        try {
            test.run();
        } catch (RuntimeException e) {
            wrong("the test came to its end by " + e);
        }
        if (compared == before) {
            wrong("nothing was compared");
        }
        sentence = "";
    }

    static void same(String what, String due, String got) {
        compared++;
        if (!due.equals(got)) {
            wrong(what);
        }
    }

    static void is(String what, long due, long got) {
        compared++;
        if (due != got) {
            wrong(what + " answered " + got + ", due is " + due);
        }
    }

    static void throwing(String what, Class<? extends RuntimeException> due, LongSupplier call) {
        compared++;
        try {
            long got = call.getAsLong();
            wrong(what + " answered " + got + ", due is " + due.getSimpleName());
        } catch (RuntimeException e) {
            if (e.getClass() != due) {
                wrong(what + " threw " + e + ", due is " + due.getSimpleName());
            }
        }
    }

    static void throwing(String what, Class<? extends RuntimeException> due, Runnable call) {
        throwing(what, due, () -> {
            call.run();
            return 0;
        });
    }

    static void wrong(String text) {
        WRONG.add(sentence + text);
        if (WRONG.size() <= MOST_TOLD) {
            System.out.println(sentence + text);
        }
    }

    static int wrongCount() {
        return WRONG.size();
    }

    static void end() {
        System.out.println(compared + " answers compared, " + WRONG.size() + " wrong");
        if (!WRONG.isEmpty()) {
            System.exit(1);
        }
    }
}
