/**
 * Goes on with an office in a fixed way, so that whatever an earlier call left in it comes to
 * light: lists and numbers show in a round only, a STAY in a chain.
 */
final class Aftermath {
    private static final int[] NUMBERS = {0, 1, 5, 500, 999};

    private final Office office;
    private final int mostCalls;
    private final StringBuilder told = new StringBuilder();
    private int schools;
    private int pupils;

    private Aftermath(Office office, int mostCalls) {
        this.office = office;
        this.mostCalls = mostCalls;
    }

    /** What an office answers until it has had so many calls in all. */
    static String of(Office office, int mostCalls) {
        Aftermath a = new Aftermath(office, mostCalls);
        a.count();
        if (a.tell("look", 2).equals("0")) {
            a.lookAtMakings();
            a.makeMore();
            a.count();
            a.tell("run");
        }
        a.lookAtAll();
        a.stayAndMove();
        a.admitAndAnswer();
        return a.told.toString();
    }

    private String tell(String method, int... a) {
        if (office.calls() >= mostCalls) {
            return "";
        }
        String answer = office.say(method, a);
        told.append(method);
        for (int one : a) {
            told.append(' ').append(one);
        }
        told.append(" = ").append(answer).append('\n');
        return answer;
    }

    private void count() {
        schools = number(tell("look", 0));
        pupils = number(tell("look", 1));
    }

    /** Where no call is left there is nothing to go through. */
    private static int number(String answer) {
        return answer.isEmpty() ? 0 : Integer.parseInt(answer);
    }

    private void lookAtMakings() {
        for (int p = 0; p < pupils; p++) {
            tell("seat", p, 5);
        }
        for (int s = 0; s < schools; s++) {
            for (int k = 0; k < 3; k++) {
                tell("held", s, k, 0);
            }
        }
    }

    private void makeMore() {
        tell("school");
        tell("pupil", 15, 0);
        for (int s = 0; s < schools; s++) {
            tell("kind", s, 1, 0, -1, -1);
        }
        for (int p = 0; p < pupils; p++) {
            tell("wish", p, schools - 1);
        }
        for (int s = 0; s < schools && s < 3; s++) {
            for (int n : NUMBERS) {
                tell("draw", pupils - 1, s, n);
            }
        }
    }

    private void lookAtAll() {
        lookAtSeats(6);
        for (int which = 2; which < 5; which++) {
            tell("look", which);
        }
        for (int s = 0; s < schools; s++) {
            for (int k = 0; k < 3; k++) {
                for (int w = 0; w < 3; w++) {
                    tell("held", s, k, w);
                }
            }
        }
        for (int i = -1; i < 4; i++) {
            tell("blocking", i);
        }
    }

    private void lookAtSeats(int below) {
        for (int p = 0; p < pupils; p++) {
            for (int w = 0; w < below; w++) {
                tell("seat", p, w);
            }
        }
    }

    private void stayAndMove() {
        tell("chain");
        for (int p = 0; p < pupils; p++) {
            tell("seat", p, 0);
            tell("stay", p, 4);
        }
        tell("answer", 0, 2);
        tell("chain");
    }

    private void admitAndAnswer() {
        for (int p = 0; p < pupils; p++) {
            tell("answer", p, p % 2);
            tell("over", p, schools - 1);
        }
        tell("chain");
        lookAtSeats(5);
        for (int p = 0; p < pupils; p++) {
            for (int s = 0; s < schools; s++) {
                tell("why", p, s);
            }
        }
    }
}
