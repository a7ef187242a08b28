import java.util.function.BooleanSupplier;
import java.util.function.IntSupplier;

/** What the tests share: comparing answers, counting the wrong ones, and reading a whole object. */
final class Check {
    private static int wrong = 0;
    private static int made = 0;
    private static String part = "";

    private Check() {
    }

    static void part(String name) {
        part = name;
    }

    static void is(String call, long got, long due) {
        made++;
        if (got != due) {
            wrong(call + " answered " + got + ", due is " + due);
        }
    }

    static void yes(String call, boolean got) {
        is(call, got ? 1 : 0, 1);
    }

    static void no(String call, boolean got) {
        is(call, got ? 1 : 0, 0);
    }

    /** The call throws IllegalArgumentException and changes nothing. */
    static void badArgument(String call, SeatOffice x, IntSupplier tried) {
        refused(call, x, tried, IllegalArgumentException.class);
    }

    /** The call throws IllegalStateException and changes nothing. */
    static void badState(String call, SeatOffice x, IntSupplier tried) {
        refused(call, x, tried, IllegalStateException.class);
    }

    /** The call answers false and changes nothing. */
    static void denied(String call, SeatOffice x, BooleanSupplier tried) {
        String before = state(x);
        no(call, tried.getAsBoolean());
        same(call, before, state(x));
    }

    private static void refused(String call, SeatOffice x, IntSupplier tried, Class<?> due) {
        String before = state(x);
        made++;
        try {
            int got = tried.getAsInt();
            wrong(call + " answered " + got + ", due is " + due.getSimpleName());
        } catch (RuntimeException e) {
            if (e.getClass() != due) {
                wrong(call + " threw " + e.getClass().getSimpleName() + ", due is " + due.getSimpleName());
            }
        }
        same(call, before, state(x));
    }

    static void same(String call, String before, String after) {
        made++;
        if (!before.equals(after)) {
            wrong(call + " changed " + before + " to " + after);
        }
    }

    static void wrong(String text) {
        wrong++;
        System.out.println(part + ": " + text);
    }

    /** Everything that the looking calls tell of an object, as one text. */
    static String state(SeatOffice x) {
        StringBuilder all = new StringBuilder();
        for (int which = 0; which < 5; which++) {
            all.append(x.look(which)).append(' ');
        }
        for (int p = 0; p < x.look(1); p++) {
            all.append("| ");
            for (int w = 0; w < 6; w++) {
                all.append(x.seat(p, w)).append(' ');
            }
            for (int s = 0; s < x.look(0); s++) {
                all.append(x.why(p, s)).append(' ');
            }
        }
        for (int s = 0; s < x.look(0); s++) {
            for (int k = 0; x.held(s, k, 0) != SeatOffice.NONE; k++) {
                all.append("| ").append(x.held(s, k, 0)).append(' ').append(x.held(s, k, 1));
                all.append(' ').append(x.held(s, k, 2));
            }
        }
        all.append("| ");
        for (int i = -1; i < x.blocking(-1); i++) {
            all.append(x.blocking(i)).append(' ');
        }
        return all.toString();
    }

    static void end() {
        System.out.println(made + " answers looked at, " + wrong + " not as due");
        if (wrong != 0) {
            System.exit(1);
        }
    }
}
