/** Promises 7 to 12 at their edges: each sentence that names one has a test of its own. */
public final class RoundEdgeTest extends Story {
    public static void main(String[] args) {
        roundOfNobody();
        roundOnce();
        roundOfAll();
        listUsedUp();
        seatsOfKinds();
        lateStandsBehind();
        bandGoesBeforeNumber();
        numberOfTheSchool();
        answerOfNobody();
        answerOfNoSuchWhat();
        answerBeforeRound();
        answerOfOneThatLeft();
        answerWithoutSeat();
        answerOnceInAll();
        answerHoweverSeated();
        declining();
        leaving();
        stayBounds();
        stayRefused();
        stayAtFirst();
        stayLater();
        stayEnds();
        stayPlaces();
        chainBeforeRound();
        chainWithoutMoves();
        chainOfSeats();
        chainOrder();
        chainOldSeat();
        chainHolders();
        chainLongest();
        appealBounds();
        appealAtAnyTime();
        appealBeforeRound();
        appealBehindRound();
        overRefused();
        overWhereItSits();
        overLists();
        overOldSeat();
        overFull();
        Check.end();
    }

    // ---- 7

    private static void roundOfNobody() {
        sentence("7: how many pupils are placed, nobody being there");
        story("run = 0; look 2 = 1; look 3 = 0; look 4 = 0");
        story(schools(6), "run = 0; look 2 = 1; look 3 = 0");
        story(times(20, "pupil 15"), "run = 0; look 3 = 0; look 4 = 0");
        story(openSchools(6, 6), times(20, "pupil 15"), "run = 0; look 3 = 0", times(20, "seat # 2 = 0"));
    }

    private static void roundOnce() {
        sentence("7: IllegalStateException if it was");
        story("run = 0; run = state; run = state; look 2 = 1");
        story(TWO_SEATS, "look 2 = 0; run = 2; run = state; answer 0 2; run = state; seat 0 0 = -1; stay 2 1",
                "chain = 1; run = state; seat 2 0 = 0; look 2 = 1; look 3 = 5");
        story(TWO_SEATS, "run; answer 1 1; appeal 2 15; run = state; seat 1 0 = -1; seat 2 0 = -1; look 4 = 1");
    }

    private static void roundOfAll() {
        sentence("7: all places taken");
        story(full(6), "run = 20; look 3 = 22; look 4 = 20; held 5 0 1 = 6; held 5 1 1 = 6; held 5 2 1 = 6",
                "held 0 0 1 = 2; held 0 1 1 = 0; seat 17 1 = 2; seat 18 0 = 0; seat 19 2 = 2; run = state");
        story(full(0), "run = 0; look 3 = 80; look 4 = 0", times(20, "seat # 2 = 4; seat # 0 = -1"));
        story(full(1), "run = 12; look 3 = 62; seat 11 0 = 1; seat 12 0 = -1; seat 19 2 = 4; run = state");
    }

    private static void listUsedUp() {
        sentence("7: whose list has a school that it has not asked yet");
        story(openSchools(1, 1), pupils(2, "0"), "draw 1 0 0; run = 1; seat 0 0 = -1; seat 0 2 = 1; seat 1 0 = 0",
                "look 3 = 2");
        story(openSchools(4, 1), pupils(1, "0123"), "pupil 0; wish 1 0; draw 1 0 0; pupil 0; wish 2 1; draw 2 1 0",
                "pupil 0; wish 3 2; draw 3 2 0; run = 4; seat 0 0 = 3; seat 0 2 = 4; look 3 = 7");
        story(openSchools(4, 1), pupils(1, "0123"), "pupil 0; wish 1 0; draw 1 0 0; pupil 0; wish 2 1; draw 2 1 0",
                "pupil 0; wish 3 2; draw 3 2 0; pupil 0; wish 4 3; draw 4 3 0; run = 4; seat 0 0 = -1; seat 0 2 = 4",
                "look 3 = 8");
        story(openSchools(1, 1), pupils(1, "0"), "pupil 0; run = 1; seat 1 2 = 0; seat 0 2 = 1");
        sentence("7: a school that chooses nobody takes nobody from another");
        story("school; kind 0 1 0 -1 -1; school", pupils(2, "01"), "draw 1 0 0; run = 1; seat 1 0 = 0; seat 0 2 = 2");
    }

    private static void seatsOfKinds() {
        sentence("7: its kinds in their order each take as many as they have seats");
        story("school; kind 0 1 0 -1 -1; kind 0 0 0 -1 -1; kind 0 1 0 -1 -1", pupils(3, "0"),
                "run = 2; seat 0 1 = 0; seat 1 1 = 2; seat 2 0 = -1; held 0 1 1 = 0; held 0 1 2 = -1");
        story("school; kind 0 6 0 -1 -1; kind 0 6 0 -1 -1; kind 0 6 0 -1 -1", pupils(19, "0"),
                "run = 18; seat 5 1 = 0; seat 6 1 = 1; seat 11 1 = 1; seat 12 1 = 2; seat 17 1 = 2; seat 18 0 = -1");
        story("school; kind 0 6 0 -1 -1; kind 0 6 0 -1 -1", pupils(6, "0"), "run = 6; held 0 0 1 = 6; held 0 1 1 = 0");
        sentence("7: of those that are left and eligible");
        story("school; kind 0 1 0 -1 -1; kind 0 1 1 -1 -1; pupil 1; wish 0 0; pupil 0; wish 1 0",
                "run = 1; seat 0 1 = 0; seat 1 0 = -1");
        story("school; kind 0 1 0 -1 -1; kind 0 1 1 -1 -1; pupil 1; wish 0 0; pupil 0; wish 1 0; draw 1 0 999",
                "run = 2; seat 0 1 = 1; seat 1 1 = 0");
        story("school; kind 0 6 8 4 2; kind 0 6 -1 -1 -1; kind 0 1 1 -1 -1; pupil 1; wish 0 0; run = 1; seat 0 1 = 2");
    }

    private static void lateStandsBehind() {
        sentence("7: one who is not late before a late one");
        story("school; kind 0 1 8 4 0; pupil 8 late; wish 0 0; draw 0 0 0", times(19, "pupil 0"), "wish 19 0",
                "run = 1; seat 19 0 = 0; seat 0 0 = -1");
        story("school; kind 0 1 0 -1 -1; pupil 0 late; pupil 0; wish 0 0; wish 1 0; run; seat 1 0 = 0");
        story("school; kind 0 1 0 -1 -1; pupil 0 late; pupil 0 late; wish 0 0; wish 1 0; run; seat 0 0 = 0");
        story("school; kind 0 1 0 -1 -1; pupil 0 late; pupil 0 late; wish 0 0; wish 1 0; draw 1 0 999; run",
                "seat 1 0 = 0");
        story("school; kind 0 1 8 4 0; pupil 4 late; wish 0 0; draw 0 0 0", times(18, "pupil 0"),
                "pupil 8 late; wish 19 0; run = 1; seat 19 0 = 0");
    }

    private static void bandGoesBeforeNumber() {
        sentence("7: of those, the one with the lesser band (0, 1, 2); then the one with the lesser NUMBER");
        story("school; kind 0 1 8 4 0; pupil 4; wish 0 0; draw 0 0 0", times(18, "pupil 0"), "pupil 8; wish 19 0",
                "run = 1; seat 19 0 = 0");
        story("school; kind 0 1 8 4 0; pupil 0; wish 0 0; draw 0 0 0", times(18, "pupil 0"), "pupil 4; wish 19 0",
                "run = 1; seat 19 0 = 0");
        story("school; kind 0 1 8 4 0; pupil 4; wish 0 0; pupil 4; wish 1 0; draw 1 0 999; run; seat 1 0 = 0");
        story("school; kind 0 1 8 4 0; pupil 0; wish 0 0; pupil 0; wish 1 0; draw 1 0 1; draw 0 0 0; run",
                "seat 0 0 = 0");
    }

    private static void numberOfTheSchool() {
        sentence("7: the NUMBER at the school");
        story(openSchools(2, 1), pupils(2, "0"), "draw 1 1 0; draw 0 1 1; run; seat 0 0 = 0; seat 1 0 = -1");
        story(openSchools(6, 1), pupils(2, "5"), "draw 1 0 0; draw 1 4 0; draw 0 5 9; draw 1 5 8; run; seat 1 0 = 5");
    }

    // ---- 8

    private static void answerOfNobody() {
        sentence("8: false if there is no such pupil");
        for (int n : SOME_COUNTS) {
            each(outside(0, n - 1), openSchools(1, 6), pupils(n, "0"),
                    "run; answer # 0 = false; answer # 1 = false; answer # 2 = false");
        }
        story(full(6), "run; answer 0 0 = true; answer 19 0 = true; seat 19 3 = 1; answer 18 1 = true",
                "answer 1 2 = true");
    }

    private static void answerOfNoSuchWhat() {
        sentence("8: false if there is no such what");
        each(outside(0, 2), ONE_SEAT, "run; answer 0 # = false; answer 1 # = false; seat 0 3 = 0; seat 1 3 = 0",
                "answer 0 0; answer 0 # = false; seat 0 3 = 1; seat 0 0 = 0; answer 1 2; answer 1 # = false",
                "seat 1 3 = 3");
        each(outside(0, 2), TWO_SEATS, "run; stay 1 1; answer 1 # = false; seat 1 4 = 1; answer 0 2; chain = 1");
        each(range(0, 2), ONE_SEAT, "run; answer 0 # = true");
    }

    private static void answerBeforeRound() {
        sentence("8: false if the round was not yet");
        each(range(0, 2), ONE_SEAT, "answer 0 # = false; answer 1 # = false; seat 0 3 = 0; run = 1; answer 0 # = true");
    }

    private static void answerOfOneThatLeft() {
        sentence("8: false if it has left");
        each(range(0, 2), ONE_SEAT, "run; answer 0 2; answer 0 # = false; seat 0 3 = 3; answer 1 2",
                "answer 1 # = false; seat 1 3 = 3");
        each(range(0, 2), ONE_SEAT, "run; answer 0 0; answer 0 2; answer 0 # = false; seat 0 3 = 3");
        each(range(0, 2), ONE_SEAT, "run; answer 0 1; answer 0 2; answer 0 # = false; seat 0 3 = 3");
    }

    private static void answerWithoutSeat() {
        sentence("8: ACCEPT or DECLINE, if it is placed then");
        story(ONE_SEAT, "run; answer 1 0 = false; answer 1 1 = false; seat 1 3 = 0; answer 1 2 = true; seat 1 3 = 3");
        story("pupil 0; run; answer 0 0 = false; answer 0 1 = false; answer 0 2 = true; answer 0 2 = false");
        story(ONE_SEAT, "run; stay 1 4; answer 1 1 = false; seat 1 4 = 4; answer 0 1; chain = 1; answer 1 1 = true",
                "seat 1 3 = 2");
    }

    private static void answerOnceInAll() {
        sentence("8: one of the two, once in all");
        for (int first : range(0, 1)) {
            for (int second : range(0, 1)) {
                String again = "; answer 1 " + second + " = false; seat 1 3 = " + (first + 1);
                story(TWO_SEATS, "run; answer 1 " + first + " = true" + again + "; over 1 0" + again,
                        "seat 1 0 = 0; answer 1 2 = true; seat 1 3 = 3; seat 1 0 = -1");
                story(TWO_SEATS,
                        "run; answer 1 " + first + " = true; stay 1 1; answer 0 2; chain = 1; seat 1 0 = 0" + again,
                        "seat 1 0 = 0; seat 1 1 = 0; held 0 0 1 = 1");
            }
        }
    }

    private static void answerHoweverSeated() {
        sentence("8: however it came to its seat");
        for (int what : range(0, 1)) {
            String answered = "answer 1 " + what + " = true; seat 1 3 = " + (what + 1)
                    + "; seat 1 0 = " + (what == 0 ? 0 : -1);
            story(ONE_SEAT, "draw 1 0 0; run", answered);
            story(ONE_SEAT, "run; answer 0 2; stay 1 1; chain = 1", answered);
            story(ONE_SEAT, "run; over 1 0", answered);
            story(TWO_SEATS, "run; over 1 0", answered);
        }
    }

    private static void declining() {
        sentence("8: declining gives the seat up");
        story(ONE_SEAT, "run; held 0 0 1 = 1; answer 0 1 = true; seat 0 0 = -1; seat 0 1 = -1; held 0 0 1 = 0",
                "held 0 0 2 = -1; look 4 = 0; seat 0 2 = 1; stay 1 1; chain = 1; seat 1 0 = 0");
        story(ONE_SEAT, "run; over 1 0; look 4 = 2; answer 1 1; seat 1 0 = -1; look 4 = 1; seat 0 0 = 0",
                "held 0 0 1 = 1");
        sentence("8: accepting keeps it");
        story(ONE_SEAT, "run; answer 0 0; seat 0 0 = 0; seat 0 1 = 0; held 0 0 1 = 1; stay 1 1; chain = 0; look 4 = 1");
    }

    private static void leaving() {
        sentence("8: LEAVE: it is out: no seat, waits for nothing, for good");
        story(ONE_SEAT, "run; stay 1 1; answer 1 2; seat 1 4 = 0; answer 0 2; chain = 0; seat 1 0 = -1; look 4 = 0",
                "stay 1 1 = false; chain = 0; over 1 0 = state; appeal 1 15 = true; chain = 0; blocking -1 = 0",
                "look 1 = 2");
        story(ONE_SEAT, "run; over 1 0; answer 1 2; seat 1 0 = -1; seat 1 1 = -1; over 1 0 = state; held 0 0 1 = 1");
        story(TWO_SEATS, "run; stay 1 4; answer 1 2; seat 1 0 = -1; seat 1 4 = 0; held 1 0 1 = 0; answer 0 1",
                "chain = 0");
    }

    // ---- 9

    private static void stayBounds() {
        sentence("9: STAY with a place p, 0 .. 4");
        each(range(0, 4), ONE_SEAT, "run; stay 0 # = true; seat 0 4 = #; stay 1 # = true; seat 1 4 = #");
        sentence("9: false if p is not 0 .. 4");
        each(outside(0, 4), ONE_SEAT, "run; stay 1 # = false; seat 1 4 = 0; stay 1 3; stay 1 # = false",
                "seat 1 4 = 3; stay 0 # = false");
        sentence("9: p may be above what its list has");
        each(range(0, 4), "school; pupil 0; run; stay 0 # = true; seat 0 4 = #; chain = 0");
        each(range(1, 4), ONE_SEAT, "run; stay 1 # = true; answer 0 2; chain = 1; seat 1 0 = 0; seat 1 4 = #");
    }

    private static void stayRefused() {
        sentence("9: false if there is no such pupil");
        for (int n : SOME_COUNTS) {
            each(outside(0, n - 1), openSchools(1, 1), pupils(n, "0"), "run; stay # 1 = false; stay # 0 = false");
        }
        story(full(1), "run; stay 0 4 = true; stay 19 4 = true; seat 19 4 = 4");
        sentence("9: false if the round was not yet");
        each(range(0, 4), ONE_SEAT, "stay 0 # = false; stay 1 # = false; seat 1 4 = 0; run; seat 1 4 = 0",
                "answer 0 2; chain = 0");
        sentence("9: false if it has left");
        each(range(0, 4), ONE_SEAT, "run; answer 1 2; stay 1 # = false; seat 1 4 = 0; answer 0 2; chain = 0");
    }

    private static void stayAtFirst() {
        sentence("9: at first nobody waits");
        story(full(1), "run", times(20, "seat # 4 = 0"), "answer 0 2; answer 1 2; answer 2 2; chain = 0",
                "held 5 0 1 = 0");
    }

    private static void stayLater() {
        sentence("9: a later STAY takes the place of an earlier one");
        each(range(0, 4), TWO_SEATS, "run; stay 2 4; stay 2 # = true; seat 2 4 = #; stay 2 # = true; seat 2 4 = #");
        story(TWO_SEATS, "run; stay 2 4; stay 2 1; answer 1 2; chain = 0; stay 2 2; chain = 1; seat 2 0 = 1");
        sentence("9: p 0: it waits for nothing");
        story(TWO_SEATS, "run; stay 2 4; stay 2 0 = true; answer 0 2; answer 1 2; chain = 0; seat 2 0 = -1",
                "stay 2 1; chain = 1");
    }

    private static void stayEnds() {
        sentence("9: declining and leaving end it");
        story(TWO_SEATS, "run; stay 1 4; answer 1 1; seat 1 4 = 0; chain = 0; answer 0 2; chain = 0; seat 1 0 = -1");
        story(TWO_SEATS, "run; stay 1 4; answer 1 2; seat 1 4 = 0; answer 0 2; chain = 0");
        sentence("9: accepting does not end it");
        story(TWO_SEATS, "run; stay 1 4; answer 1 0; seat 1 4 = 4; answer 0 2; chain = 1; seat 1 0 = 0; seat 1 4 = 4");
        sentence("9: after declining one may STAY again");
        story(ONE_SEAT, "run; stay 0 4; answer 0 1; stay 0 1 = true; seat 0 4 = 1; chain = 1; seat 0 0 = 0",
                "seat 0 3 = 2");
    }

    /** Pupils 0 to 3 have the seats of schools 0 to 3, but for the one where pupil 4 goes. */
    private static String fourSchoolsAnd(int own) {
        StringBuilder all = new StringBuilder(openSchools(4, 1));
        for (int s : range(0, 3)) {
            all.append(s == own ? "pupil 0; " : "pupil 0; wish " + s + " " + s + "; ");
        }
        return all.append("pupil 0; wish 4 0; wish 4 1; wish 4 2; wish 4 3; run; ").toString();
    }

    private static void stayPlaces() {
        sentence("9: it WAITS for the schools at the places below p of its list that are above its own");
        int nowhere = 4;
        for (int own : range(0, nowhere)) {
            for (int free : range(0, 3)) {
                for (int p : range(0, 4)) {
                    boolean moves = free < p && free < own;
                    int before = own == nowhere ? -1 : own;
                    String rows = "seat 4 0 = " + before + "; answer " + free + " 2; stay 4 " + p
                            + "; chain = " + (moves ? 1 : 0) + "; seat 4 0 = " + (moves ? free : before);
                    story(fourSchoolsAnd(own), rows);
                    if (own != nowhere) {
                        story(fourSchoolsAnd(nowhere), "over 4 " + own, rows);
                    }
                }
            }
        }
    }

    // ---- 10

    private static void chainBeforeRound() {
        sentence("10: IllegalStateException before the round");
        story("chain = state; look 2 = 0; run = 0; chain = 0");
        story(ONE_SEAT, "chain = state; seat 0 0 = -1; run = 1; chain = 0");
        story(full(1), "chain = state; look 4 = 0");
    }

    private static void chainWithoutMoves() {
        sentence("10: how many moves, nothing being there");
        story("run; chain = 0; chain = 0");
        story(times(20, "pupil 0"), "run", times(20, "stay # 4"), "chain = 0");
        story(schools(6), pupils(20, "5041"), "run", times(20, "stay # 4"), "chain = 0");
        sentence("10: fewer holders than seats");
        story(ONE_SEAT, "run; stay 1 4; chain = 0; seat 1 0 = -1; seat 0 0 = 0");
        story(openSchools(1, 0), pupils(2, "0"), "run = 0; stay 0 4; stay 1 4; chain = 0; look 4 = 0");
        sentence("10: a waiting pupil who waits for the school");
        story(ONE_SEAT, "run; answer 0 2; chain = 0; held 0 0 1 = 0; seat 1 0 = -1");
        sentence("10: and is eligible for the kind");
        story("school; kind 0 1 1 -1 -1", pupils(1, "0"), "run = 0; stay 0 4; chain = 0; appeal 0 14; chain = 0",
                "appeal 0 1; chain = 1");
        story("school; kind 0 1 -1 -1 -1", pupils(1, "0"), "run = 0; stay 0 4; appeal 0 15; chain = 0");
    }

    private static void chainOfSeats() {
        sentence("10: as many move as there are seats");
        for (int seats : range(0, 6)) {
            story("school; kind 0 " + seats + " 1 -1 -1", pupils(7, "0"), "run = 0", times(7, "appeal # 1; stay # 1"),
                    "chain = " + seats + "; held 0 0 1 = " + seats + "; chain = 0; look 4 = " + seats,
                    "seat " + seats + " 0 = -1");
        }
    }

    private static void chainOrder() {
        sentence("10: of the first such school, and its first such kind");
        story("school; school; kind 0 1 1 -1 -1; kind 1 1 1 -1 -1; pupil 0; wish 0 1; wish 0 0; run",
                "appeal 0 1; stay 0 2; chain = 2; seat 0 0 = 1");
        story("school; school; kind 0 1 1 -1 -1; kind 1 1 1 -1 -1; pupil 0; wish 0 0; wish 0 1; run",
                "appeal 0 1; stay 0 2; chain = 1; seat 0 0 = 0");
        story("school; kind 0 1 2 -1 -1; kind 0 0 1 -1 -1; kind 0 1 1 -1 -1; pupil 0; wish 0 0; run",
                "appeal 0 1; stay 0 1; chain = 1; seat 0 1 = 2");
        story("school; kind 0 1 1 -1 -1; kind 0 1 1 -1 -1; pupil 0; wish 0 0; run; appeal 0 1; stay 0 1; chain = 1",
                "seat 0 1 = 0");
        sentence("10: the pupil who stands before all others such");
        story("school; kind 0 1 8 4 2; pupil 1 late; pupil 1; pupil 1; pupil 1; wish 0 0; wish 1 0; wish 2 0; wish 3 0",
                "draw 0 0 0; draw 1 0 1; draw 3 0 999; run = 0; appeal 0 8; appeal 1 2; appeal 2 4; appeal 3 4",
                times(4, "stay # 1"), "chain = 1; seat 3 0 = 0; answer 3 2; chain = 1; seat 2 0 = 0",
                "answer 2 2; chain = 1; seat 1 0 = 0; answer 1 2; chain = 1; seat 0 0 = 0");
    }

    private static void chainOldSeat() {
        sentence("10: MOVES there: its old seat is free");
        story(openSchools(3, 1), "pupil 0; wish 0 2; pupil 0; wish 1 2; wish 1 1; pupil 0; wish 2 1; wish 2 0",
                "pupil 0; wish 3 0; run = 3; seat 3 0 = -1", times(4, "stay # 4"), "chain = 0; answer 0 2",
                "chain = 3; seat 1 0 = 2; seat 2 0 = 1; seat 3 0 = 0; look 4 = 3; chain = 0");
        story(TWO_SEATS, "run; stay 1 1; answer 0 2; chain = 1; seat 1 0 = 0; held 1 0 1 = 0; held 1 0 2 = -1");
        sentence("10: the chain changes no answer, no STAY and no asks");
        story(TWO_SEATS, "run; stay 1 3; answer 0 2; chain = 1; seat 1 3 = 0; seat 1 4 = 3; seat 1 2 = 2",
                "look 3 = 5; look 4 = 1");
    }

    private static void chainHolders() {
        sentence("10: Those who were admitted above number hold no kind's seat");
        story(ONE_SEAT, "pupil 0; wish 2 0; run; over 1 0; answer 0 2; stay 1 4; chain = 0; held 0 0 1 = 0",
                "stay 2 1; chain = 1; seat 2 1 = 0; seat 1 1 = -1; held 0 0 1 = 1; look 4 = 2");
        sentence("10: Flags as they are now");
        story("school; kind 0 1 1 0 -1", pupils(3, "0"), "run; stay 1 1; stay 2 1; appeal 2 1; answer 0 2",
                "chain = 1; seat 2 0 = 0");
        story("school; kind 0 1 1 -1 -1; pupil 1; wish 0 0; pupil 1; wish 1 0; run; stay 1 1; appeal 1 0",
                "answer 0 2; chain = 0");
        story("school; kind 0 1 1 -1 -1; pupil 1; wish 0 0; pupil 1; wish 1 0; run; stay 1 1; appeal 0 0; chain = 0",
                "seat 0 0 = 0");
    }

    private static void chainLongest() {
        sentence("10: all pupils go up all places of their lists, one by one");
        String kinds = times(3, "kind S 6 1 -1 -1").replace('S', '#');
        StringBuilder lists = new StringBuilder();
        for (int p : range(0, 19)) {
            lists.append("pupil 0; ");
            for (int place : range(0, 3)) {
                lists.append("wish ").append(p).append(' ').append((p < 10 ? 5 : 4) - place).append("; ");
            }
        }
        story(times(6, "school; " + kinds), lists.toString(), "run = 0; look 3 = 80", times(20, "appeal # 1; stay # 4"),
                "blocking -1 = 80; chain = 80; look 4 = 20; blocking -1 = 0; chain = 0",
                "seat 0 0 = 5; seat 9 0 = 5; seat 10 0 = 4; seat 19 0 = 4; held 5 0 1 = 6; held 5 1 1 = 4");
    }

    // ---- 11

    private static void appealBounds() {
        sentence("11: false if there is no such pupil");
        for (int n : SOME_COUNTS) {
            each(outside(0, n - 1), openSchools(1, 1), pupils(n, "0"), "appeal # 1 = false; run; appeal # 1 = false",
                    "appeal # 0 = false");
        }
        story(full(1), "appeal 0 15 = true; appeal 19 15 = true; seat 19 5 = 15; seat 18 5 = 0");
        sentence("11: false if flags is not 0 .. 15");
        each(outside(0, 15), "pupil 6; appeal 0 # = false; seat 0 5 = 6; run; appeal 0 # = false; seat 0 5 = 6",
                "answer 0 2; appeal 0 # = false; seat 0 5 = 6");
        each(range(0, 15), "pupil 6; appeal 0 # = true; seat 0 5 = #; appeal 0 # = true; seat 0 5 = #; run",
                "appeal 0 # = true; appeal 0 9; seat 0 5 = 9; appeal 0 #; seat 0 5 = #");
    }

    private static void appealAtAnyTime() {
        sentence("11: at any time, of one that has left, too");
        story(ONE_SEAT, "appeal 0 1 = true; run; appeal 0 2 = true; seat 0 5 = 2; answer 0 1; appeal 0 3 = true",
                "answer 0 2; appeal 0 4 = true; seat 0 5 = 4; seat 0 3 = 3; seat 0 0 = -1; appeal 1 15 = true",
                "chain = 0");
        story("pupil 0; appeal 0 5 = true; seat 0 5 = 5; run; appeal 0 0 = true; seat 0 5 = 0");
    }

    private static void appealBeforeRound() {
        sentence("11: before the round as if they had been so");
        story("school; kind 0 1 1 0 -1", pupils(2, "0"), "appeal 1 1; run; seat 1 0 = 0; seat 0 0 = -1");
        story("school; kind 0 1 1 -1 -1; pupil 1; wish 0 0; why 0 0 = 4; appeal 0 14; why 0 0 = 2; run = 0",
                "seat 0 2 = 1");
        story("school; kind 0 1 1 0 -1", pupils(2, "0"), "appeal 1 1; appeal 1 0; run; seat 0 0 = 0");
    }

    private static void appealBehindRound() {
        sentence("11: behind it nobody loses a seat");
        story("school; kind 0 1 1 -1 -1; pupil 1; wish 0 0; pupil 1; wish 1 0; run; stay 1 1; appeal 0 0",
                "seat 0 0 = 0; seat 0 1 = 0; look 4 = 1; held 0 0 1 = 1; chain = 0; why 0 0 = 0; answer 0 0 = true",
                "seat 0 0 = 0");
        sentence("11: it counts for what is decided from then on");
        story("school; kind 0 1 1 0 -1", pupils(2, "0"), "run; blocking -1 = 0; envies 1 0 = false; appeal 1 1",
                "seat 1 0 = -1; seat 1 2 = 1; blocking -1 = 1; blocking 0 = 8; envies 1 0 = true; stay 1 1",
                "chain = 0; answer 0 2; chain = 1; seat 1 0 = 0");
    }

    // ---- 12

    private static void overRefused() {
        sentence("12: IllegalArgumentException if there is no such pupil");
        for (int n : SOME_COUNTS) {
            each(outside(0, n - 1), openSchools(1, 1), pupils(n, "0"), "over # 0 = argument; run; over # 0 = argument");
        }
        sentence("12: IllegalArgumentException if the school is not in its list");
        each(outside(0, 1), openSchools(4, 1), pupils(3, "01"), "over 2 # = argument; run; over 0 # = argument",
                "over 2 # = argument; over 2 3 = argument; seat 2 0 = -1; seat 0 0 = 0");
        each(range(0, 5), schools(6), "pupil 0; run; over 0 # = argument; over 0 -1 = argument");
        sentence("12: IllegalStateException before the round");
        story(ONE_SEAT, "over 0 0 = state; over 1 0 = state; look 4 = 0; run = 1; over 1 0 = true");
        sentence("12: IllegalStateException if the pupil has left");
        story(TWO_SEATS, "run; answer 1 2; over 1 0 = state; over 1 1 = state; seat 1 0 = -1; seat 1 3 = 3",
                "held 1 0 1 = 0");
        sentence("12: a wrong argument is told before a wrong state");
        each(outside(0, 1), TWO_SEATS, "over 1 # = argument; run; answer 1 2; over 1 # = argument");
    }

    private static void overWhereItSits() {
        sentence("12: IllegalArgumentException if it has a seat there (above number, too)");
        story(TWO_SEATS, "run; over 0 0 = argument; over 1 1 = argument; seat 1 1 = 0; held 1 0 1 = 1");
        story(TWO_SEATS, "run; over 2 1 = true; over 2 1 = argument; seat 2 0 = 1; seat 2 1 = -1; over 2 0 = true",
                "over 2 0 = argument");
        story(TWO_SEATS, "run; answer 0 1; over 0 0 = true; over 0 0 = argument; seat 0 1 = -1; held 0 0 1 = 0");
    }

    private static void overLists() {
        sentence("12: a pupil is admitted to a school of its list");
        each(range(0, 3), openSchools(4, 0), pupils(1, "3210"), "run = 0; over 0 # = true; seat 0 0 = #",
                "seat 0 1 = -1; look 4 = 1; held # 0 1 = 0; held # 0 2 = -1; why 0 # = 0; seat 0 3 = 0",
                "seat 0 2 = 4");
        each(range(1, 3), openSchools(4, 1), pupils(1, "0123"), "run = 1; over 0 # = true; seat 0 0 = #",
                "held 0 0 1 = 0; over 0 0 = true; seat 0 0 = 0; seat 0 1 = -1; held 0 0 1 = 0");
    }

    private static void overOldSeat() {
        sentence("12: it holds no kind there, and a seat that it had is free");
        story(TWO_SEATS, "run; stay 2 4; over 0 1 = true; seat 0 0 = 1; seat 0 1 = -1; held 0 0 1 = 0",
                "held 1 0 1 = 1; look 4 = 2; chain = 1; seat 2 0 = 0; seat 2 1 = 0");
        story(TWO_SEATS, "run; over 2 1; over 2 0 = true; held 0 0 1 = 1; held 1 0 1 = 1; look 4 = 3; seat 2 0 = 0");
        story(TWO_SEATS, "run; stay 1 4; over 0 1; stay 0 0; chain = 1; seat 1 0 = 0; held 1 0 1 = 0; stay 2 4",
                "chain = 1; seat 2 0 = 1");
        sentence("12: a STAY and an answer are kept");
        story(TWO_SEATS, "run; stay 1 2; answer 1 0; over 1 0; seat 1 4 = 2; seat 1 3 = 1; seat 1 2 = 2");
    }

    private static void overFull() {
        sentence("12: ABOVE NUMBER, all seats being taken or there being none");
        story(full(0), "run = 0", times(20, "over # 5 = true"), "look 4 = 20; held 5 0 1 = 0; held 5 2 1 = 0",
                "held 5 0 2 = -1; blocking -1 = 0");
        story(full(6), "run = 20; over 18 5 = true; over 19 5 = true; look 4 = 20; held 5 0 1 = 6; held 5 2 1 = 6",
                "held 5 2 2 = 17; held 0 0 1 = 0");
        story(schools(1), pupils(1, "0"), "run = 0; over 0 0 = true; seat 0 0 = 0; look 4 = 1");
    }
}
