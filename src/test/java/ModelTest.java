import java.util.Arrays;

/** Mixed runs of as many calls as the document promises, against the Model. */
public final class ModelTest {
    private static final int RUNS = 6000;

    private static final String[] MAKING = {
        "school", "school", "kind", "kind", "kind", "pupil", "pupil", "pupil", "pupil", "wish", "wish", "wish", "wish",
        "wish", "wish", "wish", "wish", "draw", "draw", "draw", "draw", "appeal",
    };
    private static final String[] ANSWERING = {
        "answer", "answer", "answer", "stay", "stay", "stay", "stay", "chain", "chain", "appeal", "appeal", "over",
        "over",
    };
    private static final String[] LOOKING = {
        "seat", "seat", "seat", "held", "held", "held", "blocking", "blocking", "envies", "envies", "why", "why",
        "look",
    };
    private static final String[] REFUSED_OFTEN = {
        "school", "kind", "pupil", "wish", "draw", "answer", "stay", "chain", "appeal", "over",
    };

    private long seed;

    public static void main(String[] args) {
        ModelTest test = new ModelTest();
        for (int run = 0; run < RUNS; run++) {
            Check.part("mixed run " + run);
            test.seed = run * 7919L + 17;
            test.mixedRun();
        }
        Check.end();
    }

    /** A row of numbers that is the same in every run of the test. */
    private int next(int below) {
        seed = seed * 6364136223846793005L + 1442695040888963407L;
        return (int) ((seed >>> 33) % below);
    }

    private String oneOf(String... methods) {
        return methods[next(methods.length)];
    }

    private void mixedRun() {
        Office office = new Office();
        Model model = new Model();
        int making = 20 + next(180);
        while (office.calls() < Office.MOST_CALLS) {
            String method = office.calls() == making ? "run" : method(office.calls() < making);
            int[] a = arguments(model, method);
            String text = office.calls() + ": " + method + Arrays.toString(a);
            Check.text(text, office.say(method, a), model.say(method, a));
        }
    }

    private String method(boolean making) {
        int way = next(50);
        if (way == 0) {
            return making ? oneOf(REFUSED_OFTEN) : oneOf("run", oneOf(REFUSED_OFTEN));
        }
        if (way < (making ? 8 : 35)) {
            return oneOf(LOOKING);
        }
        return making ? oneOf(MAKING) : oneOf(ANSWERING);
    }

    /** Mostly one of 0 .. count - 1, else one just outside or very far. */
    private int around(int count) {
        int way = next(60);
        if (way == 0) {
            return next(2) == 0 ? Integer.MIN_VALUE + next(3) : Integer.MAX_VALUE - next(3);
        }
        return way < 4 ? next(2) * (count + 1) - 1 : next(Math.max(count, 1));
    }

    private int flags() {
        return next(3) == 0 ? around(16) : 1 << next(4) | next(16);
    }

    private int band() {
        int way = next(30);
        if (way < 6) {
            return way == 0 ? Integer.MIN_VALUE : -1;
        }
        return way == 6 ? 16 : way < 10 ? next(16) : way < 18 ? 0 : 1 << next(4);
    }

    private int[] arguments(Model m, String method) {
        int schools = m.kinds.size();
        int pupils = m.pupils.size();
        switch (method) {
            case "kind":
                return new int[] {around(schools), next(4) == 0 ? around(7) : next(3), band(), band(), band()};
            case "pupil":
                return new int[] {flags(), next(4) == 0 ? 1 : 0};
            case "draw":
                return new int[] {around(pupils), around(schools), next(4) == 0 ? around(1000) : next(25)};
            case "answer":
                return new int[] {around(pupils), next(3) == 0 ? around(3) : next(2)};
            case "stay":
                return new int[] {around(pupils), around(5)};
            case "appeal":
                return new int[] {around(pupils), flags()};
            case "wish":
            case "over":
            case "why":
                return new int[] {around(pupils), around(schools)};
            case "seat":
                return new int[] {around(pupils), around(6)};
            case "held":
                return new int[] {around(schools), next(3) == 0 ? around(3) : next(2), around(3)};
            case "blocking":
                return new int[] {next(3) == 0 ? around(20) : next(3) - 1};
            case "envies":
                return new int[] {around(pupils), around(pupils)};
            case "look":
                return new int[] {around(5)};
            default:
                return new int[0];
        }
    }
}
