/**
 * An office under test that takes calls as texts ("kind 0 1 0 -1 -1", "pupil 3 late") and tells
 * answers as texts. It counts its calls, as the document promises no more than 512 of them.
 */
final class Office {
    static final int MOST_CALLS = 512;

    private final SeatOffice office = new SeatOffice();
    private int calls;

    int calls() {
        return calls;
    }

    String say(String call) {
        String[] words = call.split(" ");
        int[] a = new int[words.length - 1];
        for (int i = 0; i < a.length; i++) {
            a[i] = words[i + 1].equals("late") ? 1 : Integer.parseInt(words[i + 1]);
        }
        return say(words[0], a);
    }

    String say(String method, int... a) {
        calls++;
        try {
            return String.valueOf(answer(method, a));
        } catch (RuntimeException e) {
            return nameOf(e);
        }
    }

    private static String nameOf(RuntimeException e) {
        if (e.getClass() == IllegalArgumentException.class) {
            return "argument";
        }
        return e.getClass() == IllegalStateException.class ? "state" : e.toString();
    }

    private Object answer(String method, int... a) {
        switch (method) {
            case "school": return office.school();
            case "kind": return office.kind(a[0], a[1], a[2], a[3], a[4]);
            case "pupil": return office.pupil(a[0], a.length > 1 && a[1] == 1);
            case "wish": return office.wish(a[0], a[1]);
            case "draw": return office.draw(a[0], a[1], a[2]);
            case "run": return office.run();
            case "answer": return office.answer(a[0], a[1]);
            case "stay": return office.stay(a[0], a[1]);
            case "chain": return office.chain();
            case "appeal": return office.appeal(a[0], a[1]);
            case "over": return office.over(a[0], a[1]);
            case "seat": return office.seat(a[0], a[1]);
            case "held": return office.held(a[0], a[1], a[2]);
            case "blocking": return office.blocking(a[0]);
            case "envies": return office.envies(a[0], a[1]);
            case "why": return office.why(a[0], a[1]);
            case "look": return office.look(a[0]);
            default: throw new UnsupportedOperationException(method);
        }
    }
}
