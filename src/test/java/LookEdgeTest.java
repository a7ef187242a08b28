/** Promises 13 to 18 at their edges: each sentence that names one has a test of its own. */
public final class LookEdgeTest extends Story {
    public static void main(String[] args) {
        seatOfNobody();
        seatOfNoSuchW();
        seatPlaces();
        seatAsked();
        seatAnswered();
        seatStaysAndFlags();
        heldOfNothing();
        heldCounts();
        heldLast();
        heldLastNotEligible();
        blockingBeforeRound();
        blockingNumbers();
        blockingOrder();
        blockingWho();
        blockingChoice();
        enviesOfNobody();
        enviesNoSeat();
        enviesPlaces();
        enviesOrder();
        enviesEligible();
        whyOfNobody();
        whyInOrder();
        whyBeforeRound();
        whyAboveNumber();
        lookOfNothing();
        lookCounts();
        Check.end();
    }

    // ---- 13

    private static void seatOfNobody() {
        sentence("13: NONE if there is none such");
        for (int n : SOME_COUNTS) {
            String rows = "seat # 0 = -1; seat # 1 = -1; seat # 2 = -1; seat # 3 = -1; seat # 4 = -1; seat # 5 = -1; ";
            each(outside(0, n - 1), openSchools(1, 6), pupils(n, "0"), rows, "run; ", rows);
        }
        story(full(6), "seat 19 5 = 0; run; seat 0 0 = 5; seat 19 0 = 0; seat 20 0 = -1; seat -1 0 = -1");
    }

    private static void seatOfNoSuchW() {
        sentence("13: NONE if no such w");
        each(outside(0, 5), ONE_SEAT, "appeal 0 7; seat 0 # = -1; run; seat 0 # = -1; stay 0 4; answer 0 0",
                "seat 0 # = -1; seat 1 # = -1");
    }

    private static void seatPlaces() {
        sentence("13: w = 0: the school where it is placed, NONE (before the round, too)");
        story(ONE_SEAT, "seat 0 0 = -1; seat 0 1 = -1; run; seat 0 0 = 0; seat 1 0 = -1; seat 1 1 = -1");
        each(range(0, 5), openSchools(6, 1), "pupil 0; wish 0 #; seat 0 0 = -1; run; seat 0 0 = #; seat 0 1 = 0");
        sentence("13: w = 1: the kind, NONE (also above number)");
        story("school", times(3, "kind 0 1 0 -1 -1"), pupils(4, "0"), "run", times(3, "seat # 0 = 0; seat # 1 = #"),
                "seat 3 0 = -1; seat 3 1 = -1; over 3 0; seat 3 0 = 0; seat 3 1 = -1");
        story(TWO_SEATS, "run; over 0 1; seat 0 0 = 1; seat 0 1 = -1; answer 0 1; seat 0 0 = -1; seat 0 1 = -1");
    }

    private static void seatAsked() {
        sentence("13: w = 2: how many schools it asked in the round");
        for (int n : range(0, 4)) {
            story(openSchools(4, 0), pupils(1, "0123".substring(0, n)),
                    "seat 0 2 = 0; run; seat 0 2 = " + n + "; look 3 = " + n);
        }
        story(openSchools(4, 1), pupils(1, "0123"), "run; seat 0 2 = 1");
        story(TWO_SEATS, "run; seat 0 2 = 1; seat 1 2 = 2; seat 2 2 = 2; answer 0 2; seat 0 2 = 1; stay 1 1; chain",
                "seat 1 2 = 2; over 2 1; seat 2 2 = 2; answer 2 1; seat 2 2 = 2; look 3 = 5");
    }

    private static void seatAnswered() {
        sentence("13: w = 3: 0 no answer, 1 ACCEPTED, 2 DECLINED, 3 LEFT");
        story(ONE_SEAT, "seat 0 3 = 0; run; seat 0 3 = 0; answer 0 0; seat 0 3 = 1; answer 0 2; seat 0 3 = 3");
        story(ONE_SEAT, "run; answer 0 1; seat 0 3 = 2; answer 0 2; seat 0 3 = 3; seat 1 3 = 0; answer 1 2",
                "seat 1 3 = 3");
        sentence("13: the latest answer, whatever seat came since");
        story(ONE_SEAT, "run; answer 0 1; stay 0 1; chain = 1; seat 0 0 = 0; seat 0 3 = 2; over 1 0; seat 1 3 = 0");
        story(TWO_SEATS, "run; answer 1 1; over 1 0; seat 1 3 = 2; answer 0 0; over 0 1; seat 0 3 = 1; stay 0 4",
                "chain = 1; seat 0 3 = 1");
    }

    private static void seatStaysAndFlags() {
        sentence("13: w = 4: up to which place it STAYS, 0 if it does not");
        each(range(0, 4), ONE_SEAT, "seat 1 4 = 0; run; seat 1 4 = 0; stay 1 #; seat 1 4 = #; seat 0 4 = 0",
                "stay 1 0; seat 1 4 = 0");
        each(range(0, 4), ONE_SEAT, "run; stay 0 #; answer 0 1; seat 0 4 = 0; stay 0 #; seat 0 4 = #; answer 0 2",
                "seat 0 4 = 0");
        sentence("13: w = 5: its flags");
        each(range(0, 15), "pupil #; seat 0 5 = #; run; seat 0 5 = #; answer 0 2; seat 0 5 = #; appeal 0 3",
                "seat 0 5 = 3");
    }

    // ---- 14

    private static void heldOfNothing() {
        sentence("14: NONE if there is none such");
        for (int n : range(0, 6)) {
            each(outside(0, n - 1), openSchools(n, 2), "held # 0 0 = -1; held # 0 1 = -1; held # 0 2 = -1; run",
                    "held # 0 0 = -1; held # 0 1 = -1");
        }
        for (int n : range(0, 3)) {
            each(outside(0, n - 1), "school; school", times(n, "kind 0 2 0 -1 -1"), times(3, "kind 1 2 0 -1 -1"),
                    "held 0 # 0 = -1; held 0 # 1 = -1; held 0 # 2 = -1; run; held 0 # 0 = -1; held 0 # 1 = -1");
        }
        sentence("14: NONE if no such w");
        each(outside(0, 2), ONE_SEAT, "held 0 0 # = -1; run; held 0 0 # = -1; answer 0 2; held 0 0 # = -1");
    }

    private static void heldCounts() {
        sentence("14: w = 0: its seats");
        each(range(0, 6), "school; kind 0 # 0 -1 -1; kind 0 3 0 -1 -1; held 0 0 0 = #; held 0 1 0 = 3", pupils(7, "0"),
                "run; held 0 0 0 = #; answer 0 2; held 0 0 0 = #; over 1 0 = argument; held 0 0 0 = #");
        sentence("14: w = 1: how many hold one");
        for (int n : range(0, 7)) {
            int held = Math.min(n, 6);
            story(openSchools(1, 6), pupils(n, "0"), "held 0 0 1 = 0; run; held 0 0 1 = " + held,
                    times(held, "answer # 1"), "held 0 0 1 = 0");
        }
        story(full(6), "held 5 0 1 = 0; run; held 5 0 1 = 6; held 5 2 1 = 6; held 0 0 1 = 2; held 4 0 1 = 0",
                "held 1 2 1 = 0");
        story(ONE_SEAT, "run; over 1 0; held 0 0 1 = 1; answer 0 2; held 0 0 1 = 0; look 4 = 1");
    }

    private static void heldLast() {
        sentence("14: w = 2: NONE if none does");
        story(ONE_SEAT, "held 0 0 2 = -1; run; held 0 0 2 = 0; answer 0 2; held 0 0 2 = -1; over 1 0; held 0 0 2 = -1");
        story(openSchools(1, 0), pupils(2, "0"), "run; held 0 0 2 = -1");
        sentence("14: the pupil who stands behind all others");
        story(openSchools(1, 6), pupils(20, "0"), "draw 19 0 999; draw 18 0 0; run; held 0 0 2 = 3; answer 3 2",
                "answer 2 2; held 0 0 2 = 1; answer 1 2; answer 0 2; held 0 0 2 = 19; answer 19 2; held 0 0 2 = 18");
        story("school; kind 0 6 8 4 0; pupil 8 late; wish 0 0; draw 0 0 0", times(18, "pupil 0"),
                "pupil 0; wish 19 0; run = 2; held 0 0 2 = 0");
        story("school; kind 0 6 8 4 0; pupil 4; wish 0 0; draw 0 0 0", times(18, "pupil 0"), "pupil 8; wish 19 0",
                "run = 2; held 0 0 2 = 0");
        sentence("14: by what is now");
        story("school; kind 0 6 8 4 0; pupil 8; wish 0 0; pupil 8; wish 1 0; run; held 0 0 2 = 1; appeal 0 4",
                "held 0 0 2 = 0; appeal 1 0; held 0 0 2 = 1; appeal 0 0; held 0 0 2 = 1; appeal 1 4; held 0 0 2 = 0");
    }

    private static void heldLastNotEligible() {
        sentence("14: one that is not eligible any more behind all that are");
        String three = "school; kind 0 3 8 4 2; pupil 8; wish 0 0; pupil 2 late; wish 1 0; pupil 4; wish 2 0; ";
        story(three, "run = 3; held 0 0 2 = 1; appeal 0 1; held 0 0 2 = 0; appeal 0 2; held 0 0 2 = 1; appeal 2 0",
                "held 0 0 2 = 2");
        sentence("14: of several such the pupil with the greatest number of its own");
        story(three, "draw 0 0 999; draw 1 0 500; draw 2 0 0; run = 3; appeal 0 1; appeal 1 1; held 0 0 2 = 1",
                "appeal 2 1; held 0 0 2 = 2; answer 2 2; held 0 0 2 = 1; answer 1 2; held 0 0 2 = 0");
        story("school; kind 0 2 1 -1 -1; pupil 1; wish 0 0", times(18, "pupil 0"), "pupil 1; wish 19 0; run = 2",
                "appeal 0 0; held 0 0 2 = 0; appeal 19 0; held 0 0 2 = 19; appeal 0 1; held 0 0 2 = 19; appeal 19 1",
                "held 0 0 2 = 19");
    }

    // ---- 15

    private static void blockingBeforeRound() {
        sentence("15: NONE before the round");
        each(outside(0, 0), ONE_SEAT, "blocking # = -1; blocking -1 = -1; blocking 0 = -1; run; blocking -1 = 0",
                "blocking 0 = -1");
    }

    private static void blockingNumbers() {
        sentence("15: how many there are, if i is -1");
        story(ONE_SEAT, "run; blocking -1 = 0; answer 0 2; blocking -1 = 1; stay 1 1; chain; blocking -1 = 0");
        sentence("15: NONE if there is none such");
        int[] notThere = {1, 2, 7, 8, 80, 160, -2, -3, -8, -80, 65536, -65536, Integer.MAX_VALUE, Integer.MIN_VALUE};
        each(notThere, ONE_SEAT, "run; blocking # = -1; blocking 0 = -1; answer 0 2; blocking # = -1; blocking 0 = 8");
        sentence("15: 8 * pupil + school, the least and the greatest");
        story(openSchools(1, 1), pupils(1, "0"), "run; answer 0 1; blocking -1 = 1; blocking 0 = 0; blocking 1 = -1");
        story(openSchools(6, 0), "kind 5 1 1 -1 -1", times(20, "pupil 0"), "wish 19 5; run = 0; appeal 19 1",
                "blocking -1 = 1; blocking 0 = 157; blocking 1 = -1");
    }

    private static void blockingOrder() {
        sentence("15: in the order of pupils, and for each in that of its list");
        story(openSchools(4, 1), "pupil 0; wish 0 3; wish 0 0; wish 0 2; wish 0 1; pupil 0; wish 1 2; wish 1 1",
                "run = 2; answer 0 1; answer 1 1; blocking -1 = 6; blocking 0 = 3; blocking 1 = 0; blocking 2 = 2",
                "blocking 3 = 1; blocking 4 = 10; blocking 5 = 9; blocking 6 = -1");
        String kinds = times(3, "kind S 6 1 -1 -1").replace('S', '#');
        story(times(6, "school; " + kinds), pupils(20, "5041"), "run = 0", times(20, "appeal # 1"),
                "blocking -1 = 80; blocking 0 = 5; blocking 3 = 1; blocking 4 = 13; blocking 79 = 153",
                "blocking 80 = -1; blocking 78 = 156; blocking -2 = -1");
    }

    private static void blockingWho() {
        sentence("15: a pupil who has not left");
        story(ONE_SEAT, "run; answer 0 2; blocking -1 = 1; answer 1 2; blocking -1 = 0; blocking 0 = -1");
        sentence("15: a school of its list above its own");
        story(openSchools(3, 1), "pupil 0; wish 0 0; pupil 0; wish 1 1; pupil 0; wish 2 2; pupil 0; wish 3 0",
                "wish 3 1; wish 3 2; run = 3; over 3 1; answer 0 2; answer 1 2; answer 2 2; blocking -1 = 1",
                "blocking 0 = 24; over 3 0; blocking -1 = 0; over 3 2; blocking -1 = 2; blocking 1 = 25");
        sentence("15: or any, without a seat");
        story(TWO_SEATS, "run; answer 0 2; answer 1 2; blocking -1 = 2; blocking 0 = 16; blocking 1 = 17");
        story(ONE_SEAT, "run; answer 0 1; blocking -1 = 2; blocking 0 = 0; blocking 1 = 8");
        story("pupil 0; school; kind 0 1 0 -1 -1; run; blocking -1 = 0");
    }

    private static void blockingChoice() {
        sentence("15: that would choose it from those who hold a kind's seat there and it");
        story("school; kind 0 1 1 0 -1", pupils(2, "0"), "run; blocking -1 = 0; appeal 1 1; blocking -1 = 1",
                "appeal 0 1; blocking -1 = 0");
        story("school; kind 0 1 1 -1 -1; kind 0 1 0 -1 -1; pupil 1; wish 0 0; pupil 1; wish 1 0; pupil 0; wish 2 0",
                "run = 2; blocking -1 = 0; answer 0 2; blocking -1 = 1; blocking 0 = 16");
        story("school; kind 0 1 1 -1 -1; pupil 1; wish 0 0; pupil 1; wish 1 0; run; appeal 0 0; blocking -1 = 1",
                "blocking 0 = 8");
        story(openSchools(1, 0), pupils(1, "0"), "run; blocking -1 = 0");
        story(schools(1), pupils(1, "0"), "run; blocking -1 = 0");
        story("school; kind 0 1 1 -1 -1", pupils(1, "0"), "run; blocking -1 = 0; appeal 0 1; blocking -1 = 1");
        sentence("15: one above number holds no kind's seat");
        story(ONE_SEAT, "pupil 0; wish 2 0; run; over 1 0; blocking -1 = 0; answer 0 2; blocking -1 = 1",
                "blocking 0 = 16");
    }

    // ---- 16

    private static void enviesOfNobody() {
        sentence("16: IllegalArgumentException if there is no such pupil");
        each(outside(0, 1), ONE_SEAT, "envies # 0 = argument; run; envies # 0 = argument; envies 0 # = argument",
                "envies # # = argument");
        each(outside(0, 19), full(6), "run; envies # 0 = argument; envies 0 # = argument");
        story(full(6), "run; envies 0 19 = false; envies 19 0 = false; envies 18 17 = false");
    }

    private static void enviesNoSeat() {
        sentence("16: IllegalArgumentException if b holds no kind's seat");
        story(TWO_SEATS, "envies 0 1 = argument; envies 0 0 = argument; run; envies 0 2 = argument",
                "envies 2 2 = argument; envies 2 0 = false; over 2 1; envies 0 2 = argument; answer 1 1",
                "envies 0 1 = argument; answer 0 2; envies 2 0 = argument");
        story(ONE_SEAT, "run; envies 1 0 = false; over 1 0; envies 0 1 = argument; envies 1 0 = false");
    }

    /** Each of pupils 0 to 3 has the seat of its school; pupil 4 stands before all of them. */
    private static String seatedAndEnvious() {
        String kinds = times(4, "school; kind # 1 1 0 -1");
        return kinds + times(4, "pupil 0; wish # #") + "pupil 0; wish 4 0; wish 4 1; wish 4 2; ";
    }

    private static void enviesPlaces() {
        sentence("16: it is in a's list, above a's own, if a has one");
        story(seatedAndEnvious(), "run = 4; appeal 4 1; envies 4 0 = true; envies 4 1 = true; envies 4 2 = true",
                "envies 4 3 = false");
        story(seatedAndEnvious(), "run = 4; appeal 4 1; over 4 1; envies 4 0 = true; envies 4 1 = false",
                "envies 4 2 = false; envies 4 3 = false");
        story(seatedAndEnvious(), "run = 4; appeal 4 1; over 4 0; envies 4 0 = false; envies 4 1 = false; over 4 2",
                "envies 4 1 = true; envies 4 2 = false");
        sentence("16: also if a has left");
        story(seatedAndEnvious(), "run = 4; appeal 4 1; over 4 1; answer 4 2; envies 4 0 = true; envies 4 1 = true",
                "envies 4 2 = true; envies 4 3 = false");
        sentence("16: nobody would rather have its own seat");
        story(seatedAndEnvious(), "run = 4", times(4, "envies # # = false"));
    }

    private static void enviesOrder() {
        sentence("16: for the kind, stands before b");
        story(openSchools(2, 1), "pupil 0; wish 0 0; pupil 0; wish 1 1; wish 1 0; draw 0 0 500; draw 1 0 499",
                "run = 2; answer 1 1; envies 1 0 = true");
        story(openSchools(2, 1), "pupil 0; wish 0 0; pupil 0; wish 1 1; wish 1 0; draw 0 0 500; draw 1 0 501",
                "run = 2; answer 1 1; envies 1 0 = false");
        story("school; school; kind 0 1 8 4 2; kind 1 1 0 -1 -1; pupil 4; wish 0 0; pupil 4; wish 1 1; wish 1 0",
                "draw 0 0 5; draw 1 0 6; run = 2; answer 1 1; envies 1 0 = false; appeal 1 8; envies 1 0 = true",
                "appeal 1 2; envies 1 0 = false; appeal 0 2; envies 1 0 = false; appeal 1 4; envies 1 0 = true");
        sentence("16: one who is not late before a late one");
        story(openSchools(2, 1), "pupil 0 late; wish 0 0; draw 0 0 0; pupil 0; wish 1 1; wish 1 0; run; answer 1 1",
                "envies 1 0 = true");
        story(openSchools(2, 1), "pupil 0; wish 0 0; pupil 0 late; wish 1 1; wish 1 0; draw 1 0 0; run; answer 1 1",
                "envies 1 0 = false");
    }

    private static void enviesEligible() {
        sentence("16: both being eligible");
        String holderAndOther = "school; kind 0 1 2 1 -1; pupil 1; wish 0 0; pupil 0; wish 1 0; draw 1 0 0; run = 1; ";
        story(holderAndOther, "envies 1 0 = false; appeal 1 1; envies 1 0 = true; appeal 1 2; envies 1 0 = true",
                "appeal 1 12; envies 1 0 = false");
        story(holderAndOther, "appeal 1 2; appeal 0 0; envies 1 0 = false; appeal 1 0; envies 1 0 = false",
                "appeal 0 1; envies 1 0 = false");
    }

    // ---- 17

    private static void whyOfNobody() {
        sentence("17: NONE if there is no such pupil or school");
        for (int n : SOME_COUNTS) {
            each(outside(0, n - 1), openSchools(1, 1), pupils(n, "0"), "why # 0 = -1; run; why # 0 = -1");
        }
        for (int n : range(0, 6)) {
            each(outside(0, n - 1), openSchools(n, 1), "pupil 0; why 0 # = -1; run; why 0 # = -1");
        }
        story(full(6), "run; why 0 5 = 0; why 19 0 = 0; why 19 5 = 4; why 19 4 = 3; why 19 2 = 1; why 19 6 = -1",
                "why 20 0 = -1");
    }

    /** The pupil has list 0, 1, 2, 3; it is eligible at 0, 1 and 3, and its seat is at 1. */
    private static final String FIVE_REASONS = schools(5)
            + "kind 0 0 0 -1 -1; kind 1 1 0 -1 -1; kind 2 1 8 -1 -1; kind 3 1 0 -1 -1; kind 4 1 0 -1 -1; "
            + pupils(1, "0123");

    private static void whyInOrder() {
        sentence("17: 0 it is, 1 not in its list, 2 eligible for no kind, 3 placed at a higher one, 4 otherwise");
        story(FIVE_REASONS, "run = 1; why 0 0 = 4; why 0 1 = 0; why 0 2 = 2; why 0 3 = 3; why 0 4 = 1");
        sentence("17: 2 goes before 3 and 4, 1 before 2, 0 before 2");
        story(FIVE_REASONS, "over 0 0 = state; run; over 0 2; why 0 2 = 0; over 0 3; why 0 2 = 2; why 0 3 = 0",
                "why 0 1 = 4");
        story("school; school; pupil 0; wish 0 1; run; why 0 0 = 1; why 0 1 = 2; over 0 1; why 0 1 = 0; answer 0 2",
                "why 0 1 = 2");
        sentence("17: eligible by the flags that are now, for any of its kinds");
        story("school; kind 0 1 1 -1 -1; kind 0 0 2 -1 -1; kind 0 1 4 -1 -1; pupil 8; wish 0 0; run; why 0 0 = 2",
                "appeal 0 1; why 0 0 = 4; appeal 0 2; why 0 0 = 4; appeal 0 4; why 0 0 = 4; appeal 0 0; why 0 0 = 2");
        sentence("17: one that left or declined is placed nowhere");
        story(FIVE_REASONS, "run; answer 0 1; why 0 1 = 4; why 0 3 = 4; answer 0 2; why 0 1 = 4; why 0 3 = 4",
                "why 0 2 = 2; why 0 4 = 1");
    }

    private static void whyBeforeRound() {
        sentence("17: before the round nobody is placed");
        story(FIVE_REASONS, "why 0 0 = 4; why 0 1 = 4; why 0 2 = 2; why 0 3 = 4; why 0 4 = 1");
    }

    private static void whyAboveNumber() {
        sentence("17: above number counts as placed");
        story(FIVE_REASONS, "run; over 0 0; why 0 0 = 0; why 0 1 = 3; why 0 3 = 3; over 0 3; why 0 3 = 0",
                "why 0 0 = 4; why 0 1 = 4");
    }

    // ---- 18

    private static void lookOfNothing() {
        sentence("18: NONE for any other which");
        each(outside(0, 4), "look # = -1; run; look # = -1");
        each(outside(0, 4), TWO_SEATS, "look # = -1; run; look # = -1; answer 0 2; look # = -1");
    }

    private static void lookCounts() {
        sentence("18: which 0: schools, 1: pupils");
        for (int n : range(0, 6)) {
            story(schools(n), "look 0 = " + n + "; look 1 = 0; run; look 0 = " + n);
        }
        for (int n : range(0, 20)) {
            story(times(n, "pupil 0"), "look 1 = " + n + "; look 0 = 0; run; look 1 = " + n);
        }
        story(ONE_SEAT, "run; answer 0 2; answer 1 2; look 0 = 1; look 1 = 2");
        sentence("18: 2: 1 if the round was, else 0");
        story("look 2 = 0; chain = state; look 2 = 0; run; look 2 = 1; chain; look 2 = 1");
        sentence("18: 3: how many asked in the round in all");
        story(TWO_SEATS, "look 3 = 0; run; look 3 = 5; answer 0 2; stay 1 1; chain = 1; look 3 = 5; over 2 1",
                "look 3 = 5; answer 1 2; look 3 = 5");
        sentence("18: 4: how many are placed (also above number)");
        story(TWO_SEATS, "look 4 = 0; run; look 4 = 2; over 2 0; look 4 = 3; over 1 0; look 4 = 3; answer 0 0",
                "look 4 = 3; answer 1 1; look 4 = 2; answer 2 2; look 4 = 1; answer 0 2; look 4 = 0");
    }
}
