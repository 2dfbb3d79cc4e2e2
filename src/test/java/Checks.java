import java.util.ArrayList;
import java.util.List;

/** What tests are made of: named bodies, what is due, and which exception is due. */
final class Checks {
    interface Body {
        void run() throws Exception;
    }

    static int passed;
    static final List<String> failures = new ArrayList<>();

    private Checks() {
    }

    static void test(String name, Body body) {
        try {
            body.run();
            passed++;
        } catch (Throwable t) {
            failures.add(name);
            System.out.println("FAILED: " + name + ": " + t);
            StackTraceElement[] trace = t.getStackTrace();
            for (int k = 0; k < Math.min(6, trace.length); k++) {
                System.out.println("    at " + trace[k]);
            }
        }
    }

    static void due(long want, long got) {
        if (want != got) {
            throw new AssertionError("answered " + got + ", due is " + want);
        }
    }

    static void due(boolean want, boolean got) {
        if (want != got) {
            throw new AssertionError("answered " + got + ", due is " + want);
        }
    }

    static void row(long[] want, long[] got) {
        if (!java.util.Arrays.equals(want, got)) {
            throw new AssertionError("answered " + java.util.Arrays.toString(got) + ", due is " + java.util.Arrays.toString(want));
        }
    }

    static long[] of(long... values) {
        return values;
    }

    /** An illegal argument is due. */
    static void argument(Body body) {
        refused(IllegalArgumentException.class, body);
    }

    /** An illegal state is due. */
    static void state(Body body) {
        refused(IllegalStateException.class, body);
    }

    private static void refused(Class<?> kind, Body body) {
        Throwable thrown = null;
        try {
            body.run();
        } catch (Throwable t) {
            thrown = t;
        }
        if (thrown == null || thrown.getClass() != kind) {
            throw new AssertionError("threw " + thrown + ", due is " + kind.getSimpleName());
        }
    }
}
