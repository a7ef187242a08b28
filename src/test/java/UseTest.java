/** How long an object is used, and that several of them are of no concern to one another. */
public final class UseTest extends Story {
    public static void main(String[] args) {
        lastCall();
        manyRefused();
        manyChanges();
        sideBySide();
        Check.end();
    }

    private static void lastCall() {
        sentence("An object is used for at most 512 calls");
        String made = "school; kind 0 1 0 -1 -1; pupil 0; wish 0 0; pupil 0; ";
        String upToLast = made + times(Office.MOST_CALLS - 6, "look 1 = 2");
        story(upToLast, "run = 1");
        story(upToLast, "seat 0 5 = 0");
        story(upToLast, "wish 1 0 = 1");
        story(upToLast, "pupil 0 = 2");
        story(upToLast, "school = 1");
        story(upToLast, "draw 1 0 999 = true");
        story(upToLast, "draw 1 0 1000 = false");
        story(upToLast, "chain = state");
    }

    private static void manyRefused() {
        sentence("What throws or is refused changes nothing, however often");
        Office office = made(ONE_SEAT);
        String[] refused = {
            "kind 0 7 0 0 0", "pupil 16", "wish 0 0", "draw 0 0 1000", "answer 0 2", "stay 0 1", "chain", "appeal 0 16",
            "over 0 0",
        };
        for (int i = 0; office.calls() < Office.MOST_CALLS - 2; i++) {
            String call = refused[i % refused.length];
            Check.yes(call + " is refused", isRefusal(office.say(call)));
        }
        Check.text("run", office.say("run"), "1");
        Check.text("seat 0 0", office.say("seat 0 0"), "0");
    }

    private static void manyChanges() {
        sentence("changes without end");
        Office office = made(ONE_SEAT + "run; stay 1 1; answer 0 1; chain; ");
        for (int i = 0; office.calls() < Office.MOST_CALLS - 8; i++) {
            String call = i % 2 == 0 ? "appeal 0 " + i / 2 % 16 : "stay 0 " + i / 2 % 5;
            Check.text(call, office.say(call), "true");
        }
        Check.text("stay 0 1", office.say("stay 0 1"), "true");
        Check.text("answer 1 2", office.say("answer 1 2"), "true");
        Check.text("chain", office.say("chain"), "1");
        Check.text("seat 0 0", office.say("seat 0 0"), "0");
        Check.text("seat 0 3", office.say("seat 0 3"), "2");
        Check.text("seat 1 3", office.say("seat 1 3"), "3");
        Check.text("held 0 0 2", office.say("held 0 0 2"), "0");
        Check.text("look 4", office.say("look 4"), "1");
        Check.is("calls", office.calls(), Office.MOST_CALLS);
    }

    private static void sideBySide() {
        sentence("1: a new object, whatever was done with others");
        Office first = made(TWO_SEATS);
        Office second = made(TWO_SEATS + "draw 2 0 0; ");
        Check.text("second's run", second.say("run"), "2");
        Check.text("first's round was not", first.say("look 2"), "0");
        Check.text("a third's schools", new Office().say("look 0"), "0");
        Check.text("a third's pupils", new Office().say("look 1"), "0");
        Check.text("first's run", first.say("run"), "2");
        Check.text("first's seat 0 0", first.say("seat 0 0"), "0");
        Check.text("second's seat 0 0", second.say("seat 0 0"), "1");
        Check.text("second's seat 2 0", second.say("seat 2 0"), "0");
    }
}
