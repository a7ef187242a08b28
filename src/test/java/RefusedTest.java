import java.util.ArrayList;
import java.util.List;

/**
 * "What throws or is refused changes nothing", nor does a call that only looks: every call, with
 * arguments in and around its ranges, in offices at every stage.
 */
public final class RefusedTest extends Story {
    private static final int LEAST = Integer.MIN_VALUE;
    private static final int GREATEST = Integer.MAX_VALUE;

    private static final int[] PUPILS = {LEAST, -1, 0, 1, 2, 3, 4, 20, GREATEST};
    private static final int[] SCHOOLS = {LEAST, -1, 0, 1, 2, 3, 6, GREATEST};
    private static final int[] SEATS = {LEAST, -1, 2, 7, GREATEST};
    private static final int[] BANDS = {LEAST, 0, 16, GREATEST};
    private static final int[] FLAGS = {LEAST, -1, 0, 15, 16, GREATEST};
    private static final int[] LATE = {0, 1};
    private static final int[] NUMBERS = {LEAST, -1, 0, 5, 999, 1000, GREATEST};
    private static final int[] SMALL = {LEAST, -2, -1, 0, 1, 2, 3, 4, 5, 6, GREATEST};

    private static final String MADE = schools(3)
            + "kind 0 1 1 -1 -1; kind 0 1 0 -1 -1; kind 0 0 0 0 0; kind 1 2 2 1 0; "
            + "pupil 1; pupil 0; pupil 3 late; pupil 2; wish 0 0; wish 0 1; wish 1 0; wish 1 1; "
            + "wish 2 1; wish 2 0; wish 2 2; wish 3 0; wish 3 1; draw 1 0 5; draw 2 1 0; draw 3 0 999; ";
    private static final String RAN = MADE + "run; ";
    private static final String LATER = RAN
            + "stay 1 4; stay 2 3; answer 0 2; appeal 3 0; over 2 2; answer 2 0; chain; answer 3 1; ";

    private static int refusals;

    public static void main(String[] args) {
        String[] stages = {"", "run; ", MADE, RAN, LATER};
        for (String stage : stages) {
            sentence("refused at the stage " + stage);
            changingCalls(stage);
            sentence("looking at the stage " + stage);
            lookingCalls(stage);
        }
        sentence("the calls that are refused");
        Check.yes("many: " + refusals, refusals > 1000);
        Check.end();
    }

    private static void changingCalls(String stage) {
        refusedOnes(stage, "school");
        refusedOnes(stage, "kind", SCHOOLS, SEATS, BANDS, BANDS, BANDS);
        refusedOnes(stage, "pupil", FLAGS, LATE);
        refusedOnes(stage, "wish", PUPILS, SCHOOLS);
        refusedOnes(stage, "draw", PUPILS, SCHOOLS, NUMBERS);
        refusedOnes(stage, "run");
        refusedOnes(stage, "answer", PUPILS, SMALL);
        refusedOnes(stage, "stay", PUPILS, SMALL);
        refusedOnes(stage, "chain");
        refusedOnes(stage, "appeal", PUPILS, FLAGS);
        refusedOnes(stage, "over", PUPILS, SCHOOLS);
    }

    private static void lookingCalls(String stage) {
        for (String call : calls("seat", PUPILS, SMALL)) {
            changesNothing(stage, call);
        }
        for (String call : calls("held", SCHOOLS, SMALL, SMALL)) {
            changesNothing(stage, call);
        }
        for (String call : calls("envies", PUPILS, PUPILS)) {
            changesNothing(stage, call);
        }
        for (String call : calls("why", PUPILS, SCHOOLS)) {
            changesNothing(stage, call);
        }
        for (int i : SMALL) {
            changesNothing(stage, "blocking " + i);
            changesNothing(stage, "look " + i);
        }
    }

    private static void refusedOnes(String stage, String method, int[]... arguments) {
        for (String call : calls(method, arguments)) {
            if (isRefusal(made(stage).say(call))) {
                refusals++;
                changesNothing(stage, call);
            }
        }
    }

    /** The method with each choice of one value for each argument. */
    private static List<String> calls(String method, int[]... arguments) {
        List<String> all = new ArrayList<>(List.of(method));
        for (int[] values : arguments) {
            List<String> longer = new ArrayList<>();
            for (String call : all) {
                for (int value : values) {
                    longer.add(call + " " + value);
                }
            }
            all = longer;
        }
        return all;
    }
}
