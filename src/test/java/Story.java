import java.util.HashMap;
import java.util.Map;

/**
 * Tests told as rows of calls on a new office: "school; kind 0 1 0 -1 -1; held 0 0 0 = 1".
 * Behind = stands the answer that is due; a call without one must not be refused. Each call that
 * is refused is tried on a twin as well: what comes behind it is the same as if it had not been.
 */
abstract class Story {
    private static final Map<String, String> AFTERMATHS = new HashMap<>();

    /** Ints below and above every range of the document; many wrap around to small ones. */
    private static final int[] FAR = {
        Integer.MIN_VALUE, Integer.MIN_VALUE + 1, -(1 << 30), -(1 << 29), -65536, -65535, -1024, -256, -255, -32, -31,
        -21, -16, -8, -7, -6, -5, -4, -3, -2, 1024, 1025, 4096, 65536, 65537, 1 << 24, 1 << 28, 1 << 29, 1 << 30,
        (1 << 30) + 1, Integer.MAX_VALUE - 1, Integer.MAX_VALUE,
    };

    /** Behind a round pupil 0 holds the one seat of school 0, and pupil 1 has none. */
    static final String ONE_SEAT = openSchools(1, 1) + pupils(2, "0");
    /** Behind a round pupil 0 is at school 0, pupil 1 at school 1, and pupil 2 nowhere. */
    static final String TWO_SEATS = openSchools(2, 1) + pupils(3, "01");
    /** Of pupils: none, some, all but one, and all that there may be. */
    static final int[] SOME_COUNTS = {0, 1, 19, 20};

    /** The words of the document that the next stories hold it to. */
    static void sentence(String words) {
        Check.part(words);
    }

    static void story(String... rows) {
        Office office = new Office();
        StringBuilder before = new StringBuilder();
        for (String row : rows) {
            for (String part : row.split("; ?")) {
                String[] halves = part.trim().split(" = ");
                if (!halves[0].isEmpty()) {
                    tell(office, before.toString(), halves[0], halves.length > 1 ? halves[1] : null);
                    before.append(halves[0]).append(';');
                }
            }
        }
        Check.yes("no more calls than the document promises", office.calls() <= Office.MOST_CALLS);
    }

    /** The rows once for each value, which stands in for #. */
    static void each(int[] values, String... rows) {
        for (int value : values) {
            String[] told = new String[rows.length];
            for (int i = 0; i < rows.length; i++) {
                told[i] = rows[i].replace("#", String.valueOf(value));
            }
            story(told);
        }
    }

    private static void tell(Office office, String before, String call, String due) {
        String got = office.say(call);
        if (due == null) {
            Check.no(before + " " + call + " is refused: " + got, isRefusal(got));
        } else {
            Check.text(before + " " + call, got, due);
        }
        if (isRefusal(got)) {
            changesNothing(before, call);
        }
    }

    static boolean isRefusal(String answer) {
        return answer.equals("argument") || answer.equals("state") || answer.equals("false");
    }

    /** Whether what comes behind a call is the same as if it had not been. */
    static void changesNothing(String before, String call) {
        String without = AFTERMATHS.computeIfAbsent(before, made -> Aftermath.of(made(made), Office.MOST_CALLS - 1));
        Office with = made(before);
        with.say(call);
        String[] due = without.split("\n");
        String[] got = Aftermath.of(with, Office.MOST_CALLS).split("\n");
        Check.is(before + " " + call + " changed how many calls follow", got.length, due.length);
        for (int i = 0; i < due.length && i < got.length; i++) {
            if (!got[i].equals(due[i])) {
                Check.text(before + " " + call + " changed what follows", got[i], due[i]);
                return;
            }
        }
    }

    static Office made(String calls) {
        Office office = new Office();
        for (String call : calls.split("; ?")) {
            if (!call.isEmpty()) {
                office.say(call);
            }
        }
        return office;
    }

    /** The first ints on either side of a range, and many far outside. */
    static int[] outside(int least, int greatest) {
        int[] all = new int[FAR.length + 2];
        all[0] = least - 1;
        all[1] = greatest + 1;
        System.arraycopy(FAR, 0, all, 2, FAR.length);
        return all;
    }

    static int[] range(int least, int greatest) {
        int[] all = new int[greatest - least + 1];
        for (int i = 0; i < all.length; i++) {
            all[i] = least + i;
        }
        return all;
    }

    static String times(int n, String rows) {
        StringBuilder all = new StringBuilder();
        for (int i = 0; i < n; i++) {
            all.append(rows.replace("#", String.valueOf(i))).append("; ");
        }
        return all.toString();
    }

    static String schools(int n) {
        return times(n, "school");
    }

    /** So many schools, each with one kind for everybody, with so many seats. */
    static String openSchools(int n, int seats) {
        return times(n, "school; kind # " + seats + " 0 -1 -1");
    }

    /** So many pupils without flags, each with the list that the digits tell. */
    static String pupils(int n, String list) {
        StringBuilder all = new StringBuilder("pupil 0");
        for (char school : list.toCharArray()) {
            all.append("; wish # ").append(school);
        }
        return times(n, all.toString());
    }

    /** As much of everything as there may be: six schools, 18 kinds, 20 pupils with four wishes. */
    static String full(int seats) {
        String kinds = times(3, "kind S " + seats + " 0 -1 -1").replace('S', '#');
        return times(6, "school; " + kinds) + pupils(20, "5041");
    }
}
