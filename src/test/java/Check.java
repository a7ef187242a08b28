import java.util.function.BooleanSupplier;
import java.util.function.IntSupplier;

/** What the tests share: comparing answers and counting the wrong ones. */
final class Check {
    /** A fault at the root of many tests would fill the log. */
    private static final int MOST_TOLD = 100;

    private static int wrong = 0;
    private static int made = 0;
    private static String part = "";

    private Check() {
    }

    static void part(String name) {
        part = name;
    }

    static void is(String call, long got, long due) {
        made++;
        if (got != due) {
            wrong(call + " answered " + got + ", due is " + due);
        }
    }

    static void text(String call, String got, String due) {
        made++;
        if (!got.equals(due)) {
            wrong(call + " answered " + got + ", due is " + due);
        }
    }

    static void yes(String call, boolean got) {
        is(call, got ? 1 : 0, 1);
    }

    static void no(String call, boolean got) {
        is(call, got ? 1 : 0, 0);
    }

    static void badArgument(String call, IntSupplier tried) {
        throwing(call, tried, IllegalArgumentException.class);
    }

    static void badState(String call, IntSupplier tried) {
        throwing(call, tried, IllegalStateException.class);
    }

    static void denied(String call, BooleanSupplier tried) {
        no(call, tried.getAsBoolean());
    }

    private static void throwing(String call, IntSupplier tried, Class<?> due) {
        made++;
        try {
            int got = tried.getAsInt();
            wrong(call + " answered " + got + ", due is " + due.getSimpleName());
        } catch (RuntimeException e) {
            if (e.getClass() != due) {
                wrong(call + " threw " + e.getClass().getSimpleName() + ", due is " + due.getSimpleName());
            }
        }
    }

    static void wrong(String text) {
        wrong++;
        if (wrong <= MOST_TOLD) {
            System.out.println(part + ": " + text);
        }
    }

    static void end() {
        System.out.println(made + " answers looked at, " + wrong + " not as due");
        if (wrong != 0) {
            System.exit(1);
        }
    }
}
