import java.util.Arrays;

/** What a test expects: prints every answer that is not the one that is due. */
final class Expect {
    interface Call {
        void run();
    }

    private static int wrong = 0;

    private Expect() {
    }

    static void due(String call, long got, long want) {
        if (got != want) {
            report(call + " answered " + got + ", due is " + want);
        }
    }

    static void due(String call, boolean got, boolean want) {
        if (got != want) {
            report(call + " answered " + got + ", due is " + want);
        }
    }

    static void due(String call, int[] got, int... want) {
        if (!Arrays.equals(got, want)) {
            report(call + " answered " + hex(got) + ", due is " + hex(want));
        }
    }

    /** Exactly this class of exception is due. */
    static void dueThrows(String call, Class<? extends RuntimeException> want, Call run) {
        try {
            run.run();
            report(call + " threw nothing, due is " + want.getName());
        } catch (RuntimeException e) {
            if (e.getClass() != want) {
                report(call + " threw " + e + ", due is " + want.getName());
            }
        }
    }

    static void dueNoPlace(String call, Call run) {
        dueThrows(call, IndexOutOfBoundsException.class, run);
    }

    static void dueNoNumber(String call, Call run) {
        dueThrows(call, IllegalArgumentException.class, run);
    }

    /** Runs the test of one sentence of the document, and tells the sentence if it does not hold. */
    static void holds(String sentence, Call test) {
        int before = wrong;
        try {
            test.run();
        } catch (RuntimeException e) {
            report("the test threw " + e);
        }
        if (wrong != before) {
            System.out.println("does not hold: " + sentence);
        }
    }

    static void end() {
        if (wrong != 0) {
            System.out.println(wrong + " answers are not as due");
            System.exit(1);
        }
    }

    static void report(String line) {
        wrong++;
        if (wrong <= 40) {
            System.out.println(line);
        }
    }

    static String hex(int[] bytes) {
        StringBuilder text = new StringBuilder("[");
        for (int b : bytes) {
            text.append(String.format(" %02X", b));
        }
        return text.append(" ]").toString();
    }
}
