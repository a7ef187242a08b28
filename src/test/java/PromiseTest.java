/** The promises of the document one by one: the ordinary, the edges, and what is refused. */
public final class PromiseTest {
    private static final int NONE = SeatOffice.NONE;

    private static final int ACCEPT = 0;
    private static final int DECLINE = 1;
    private static final int LEAVE = 2;

    private static final int AT = 0;
    private static final int KIND = 1;
    private static final int ASKED = 2;
    private static final int ANSWERED = 3;
    private static final int STAYS = 4;
    private static final int FLAGS = 5;

    public static void main(String[] args) {
        newObject();
        school();
        kind();
        kindBands();
        pupil();
        wish();
        draw();
        drawDecides();
        runEmpty();
        runOrder();
        runPushesOut();
        runKinds();
        runFull();
        answer();
        answerOnce();
        answerAboveNumber();
        stay();
        stayPlaces();
        chain();
        chainOrder();
        chainIneligible();
        chainFull();
        appeal();
        appealBehindRound();
        over();
        overFreesSeat();
        seat();
        held();
        heldLast();
        blocking();
        blockingPairs();
        envies();
        enviesOrder();
        why();
        look();
        Check.end();
    }

    /** An office with so many schools, each with one kind for everybody with so many seats. */
    private static SeatOffice office(int... seats) {
        SeatOffice x = new SeatOffice();
        for (int s = 0; s < seats.length; s++) {
            x.school();
            x.kind(s, seats[s], 0, -1, -1);
        }
        return x;
    }

    private static int pupil(SeatOffice x, int flags, int... list) {
        int p = x.pupil(flags, false);
        for (int s : list) {
            x.wish(p, s);
        }
        return p;
    }

    private static int latePupil(SeatOffice x, int flags, int... list) {
        int p = x.pupil(flags, true);
        for (int s : list) {
            x.wish(p, s);
        }
        return p;
    }

    private static void at(SeatOffice x, int p, int school, int kind) {
        Check.is("seat(" + p + ", 0)", x.seat(p, AT), school);
        Check.is("seat(" + p + ", 1)", x.seat(p, KIND), kind);
    }

    // ---- 1

    private static void newObject() {
        Check.part("promise 1");
        SeatOffice x = new SeatOffice();
        for (int which = 0; which < 5; which++) {
            Check.is("look(" + which + ")", x.look(which), 0);
        }
        Check.is("seat(0, 0)", x.seat(0, 0), NONE);
        Check.is("seat(0, 2)", x.seat(0, 2), NONE);
        Check.is("held(0, 0, 0)", x.held(0, 0, 0), NONE);
        Check.is("why(0, 0)", x.why(0, 0), NONE);
        Check.is("blocking(-1)", x.blocking(-1), NONE);
        SeatOffice other = office(1);
        pupil(other, 0, 0);
        other.run();
        Check.is("look(0) of the first object", x.look(0), 0);
        Check.is("look(1) of the first object", x.look(1), 0);
        Check.is("look(2) of the first object", x.look(2), 0);
    }

    // ---- 2

    private static void school() {
        Check.part("promise 2");
        SeatOffice x = new SeatOffice();
        for (int s = 0; s < 6; s++) {
            Check.is("school()", x.school(), s);
            Check.is("held of a new school", x.held(s, 0, 0), NONE);
        }
        Check.badState("a seventh school()", x::school);
        Check.is("look(0)", x.look(0), 6);
        SeatOffice y = office(1);
        y.run();
        Check.badState("school() behind the round", y::school);
        Check.is("look(0)", y.look(0), 1);
    }

    // ---- 3

    private static void kind() {
        Check.part("promise 3");
        SeatOffice x = new SeatOffice();
        x.school();
        Check.badArgument("kind of no school", () -> x.kind(1, 1, 0, 0, 0));
        Check.badArgument("kind of school -1", () -> x.kind(-1, 1, 0, 0, 0));
        Check.badArgument("kind of school 6", () -> x.kind(6, 1, 0, 0, 0));
        Check.badArgument("-1 seats", () -> x.kind(0, -1, 0, 0, 0));
        Check.badArgument("7 seats", () -> x.kind(0, 7, 0, 0, 0));
        Check.badArgument("band 0 is 16", () -> x.kind(0, 1, 16, 0, 0));
        Check.badArgument("band 1 is 16", () -> x.kind(0, 1, 0, 16, 0));
        Check.badArgument("band 2 is 16", () -> x.kind(0, 1, 0, 0, 16));
        Check.badArgument("16 behind a band that is none", () -> x.kind(0, 1, -1, 16, -1));
        Check.badArgument("16 behind two that are none", () -> x.kind(0, 1, -1, -1, 16));
        Check.badArgument("the greatest int", () -> x.kind(0, 1, 0, 0, Integer.MAX_VALUE));
        Check.is("kind with 0 seats", x.kind(0, 0, 15, 15, 15), 0);
        Check.is("kind with 6 seats", x.kind(0, 6, -1, Integer.MIN_VALUE, -1), 1);
        x.school();
        Check.is("first kind of another school", x.kind(1, 2, 0, -1, -1), 0);
        Check.is("third kind", x.kind(0, 3, 0, -1, -1), 2);
        Check.is("seats", x.held(0, 0, 0), 0);
        Check.is("seats", x.held(0, 1, 0), 6);
        Check.is("seats", x.held(0, 2, 0), 3);
        Check.is("seats", x.held(1, 0, 0), 2);
        Check.badState("a fourth kind", () -> x.kind(0, 1, 0, 0, 0));
        Check.badArgument("a fourth kind with 7 seats", () -> x.kind(0, 7, 0, 0, 0));
        Check.badArgument("a fourth kind with band 16", () -> x.kind(0, 1, 0, 0, 16));
        x.run();
        Check.badState("kind behind the round", () -> x.kind(1, 1, 0, 0, 0));
        Check.badArgument("kind of no school behind the round", () -> x.kind(2, 1, 0, 0, 0));
        Check.badArgument("kind with 7 seats behind the round", () -> x.kind(1, 7, 0, 0, 0));
    }

    private static void kindBands() {
        Check.part("promise 3, bands");
        SeatOffice x = new SeatOffice();
        for (int s = 0; s < 5; s++) {
            x.school();
        }
        x.kind(0, 1, -1, 0, 0);
        x.kind(1, 1, 8, -1, 0);
        x.kind(2, 1, 3, -1, -1);
        x.kind(3, 1, 8, 4, 2);
        int p = pupil(x, 2, 0, 1, 2, 3);
        Check.is("no band at all", x.why(p, 0), 2);
        Check.is("a band behind one that is none", x.why(p, 1), 2);
        Check.is("one flag of two", x.why(p, 2), 2);
        Check.is("the third band", x.why(p, 3), 4);
        x.appeal(p, 3);
        Check.is("both flags of two", x.why(p, 2), 4);
        x.appeal(p, 15);
        Check.is("more flags than the band's", x.why(p, 1), 4);
        int q = pupil(x, 15, 4);
        Check.is("a school without kinds", x.why(q, 4), 2);
    }

    // ---- 4

    private static void pupil() {
        Check.part("promise 4");
        SeatOffice x = office(1);
        Check.badArgument("flags -1", () -> x.pupil(-1, false));
        Check.badArgument("flags 16", () -> x.pupil(16, true));
        Check.is("pupil(0, false)", x.pupil(0, false), 0);
        Check.is("pupil(15, true)", x.pupil(15, true), 1);
        Check.is("flags", x.seat(0, FLAGS), 0);
        Check.is("flags", x.seat(1, FLAGS), 15);
        Check.is("an empty list", x.why(0, 0), 1);
        for (int p = 2; p < 20; p++) {
            Check.is("pupil(1, false)", x.pupil(1, false), p);
        }
        Check.is("a list that begins", x.wish(19, 0), 1);
        Check.badState("a 21st pupil", () -> x.pupil(0, false));
        Check.badArgument("a 21st pupil with flags 16", () -> x.pupil(16, false));
        Check.is("look(1)", x.look(1), 20);
        SeatOffice y = office(1);
        y.run();
        Check.badState("pupil behind the round", () -> y.pupil(0, false));
        Check.badArgument("flags -1 behind the round", () -> y.pupil(-1, false));
    }

    // ---- 5

    private static void wish() {
        Check.part("promise 5");
        SeatOffice x = office(1, 1, 1, 1, 1);
        int p = x.pupil(0, false);
        Check.badArgument("wish of no pupil", () -> x.wish(1, 0));
        Check.badArgument("wish of pupil -1", () -> x.wish(-1, 0));
        Check.badArgument("wish of pupil 20", () -> x.wish(20, 0));
        Check.badArgument("wish for no school", () -> x.wish(p, 5));
        Check.badArgument("wish for school -1", () -> x.wish(p, -1));
        Check.is("first wish", x.wish(p, 3), 1);
        Check.badArgument("the same again", () -> x.wish(p, 3));
        Check.is("second wish", x.wish(p, 0), 2);
        Check.is("third wish", x.wish(p, 2), 3);
        Check.is("fourth wish", x.wish(p, 1), 4);
        Check.badState("a fifth wish", () -> x.wish(p, 4));
        Check.badArgument("one that is there, the list being full", () -> x.wish(p, 1));
        Check.badArgument("no school, the list being full", () -> x.wish(p, 5));
        Check.is("not in the list", x.why(p, 4), 1);
        int q = x.pupil(0, false);
        Check.is("another pupil's first wish", x.wish(q, 3), 1);
        x.run();
        at(x, p, 3, 0);
        at(x, q, NONE, NONE);
        Check.badState("wish behind the round", () -> x.wish(q, 0));
        Check.badArgument("one that is there behind the round", () -> x.wish(q, 3));
        Check.badArgument("no pupil behind the round", () -> x.wish(2, 0));
    }

    // ---- 6

    private static void draw() {
        Check.part("promise 6");
        SeatOffice x = office(1, 1);
        pupil(x, 0, 0);
        pupil(x, 0, 0);
        Check.denied("draw of no pupil", () -> x.draw(2, 0, 1));
        Check.denied("draw of pupil -1", () -> x.draw(-1, 0, 1));
        Check.denied("draw at no school", () -> x.draw(0, 2, 1));
        Check.denied("draw at school -1", () -> x.draw(0, -1, 1));
        Check.denied("draw of -1", () -> x.draw(0, 0, -1));
        Check.denied("draw of 1000", () -> x.draw(0, 0, 1000));
        Check.denied("draw of its own first number", () -> x.draw(1, 0, 1001));
        Check.yes("draw of 0", x.draw(0, 0, 0));
        Check.yes("draw of its own again", x.draw(0, 0, 0));
        Check.denied("draw of another's", () -> x.draw(1, 0, 0));
        Check.yes("the same at another school, which is not in its list", x.draw(1, 1, 0));
        Check.yes("draw of 999", x.draw(0, 0, 999));
        Check.yes("draw of one that is free again", x.draw(1, 0, 0));
        Check.denied("draw of 999 by another", () -> x.draw(1, 0, 999));
        x.run();
        at(x, 1, 0, 0);
        Check.denied("draw behind the round", () -> x.draw(0, 0, 5));
        Check.denied("its own again behind the round", () -> x.draw(0, 0, 999));
    }

    private static void drawDecides() {
        Check.part("promise 6, numbers");
        SeatOffice x = office(1, 1);
        pupil(x, 0, 0);
        pupil(x, 0, 0);
        pupil(x, 0, 1);
        pupil(x, 0, 1);
        x.draw(1, 0, 999);
        x.draw(3, 0, 0);
        x.run();
        at(x, 1, 0, 0);
        at(x, 2, 1, 0);
        SeatOffice y = office(1);
        pupil(y, 0, 0);
        pupil(y, 0, 0);
        y.draw(0, 0, 4);
        y.draw(1, 0, 3);
        y.draw(1, 0, 4);
        y.draw(1, 0, 1000);
        y.run();
        at(y, 1, 0, 0);
    }

    // ---- 7

    private static void runEmpty() {
        Check.part("promise 7, nobody");
        SeatOffice x = new SeatOffice();
        Check.is("run() of nobody", x.run(), 0);
        Check.badState("a second run()", x::run);
        SeatOffice y = office(0, 2);
        y.school();
        int p = pupil(y, 0, 0, 2);
        int q = pupil(y, 0);
        Check.is("run()", y.run(), 0);
        at(y, p, NONE, NONE);
        Check.is("asked in vain", y.seat(p, ASKED), 2);
        Check.is("asked nobody", y.seat(q, ASKED), 0);
        Check.badState("a second run()", y::run);
    }

    private static void runOrder() {
        Check.part("promise 7, order");
        SeatOffice x = new SeatOffice();
        x.school();
        x.kind(0, 3, 8, 4, 0);
        int last = latePupil(x, 12, 0);
        int third = pupil(x, 3, 0);
        int second = pupil(x, 4, 0);
        int first = pupil(x, 8, 0);
        int fourth = pupil(x, 3, 0);
        x.draw(last, 0, 0);
        x.draw(fourth, 0, 500);
        x.draw(third, 0, 499);
        Check.is("run()", x.run(), 3);
        at(x, first, 0, 0);
        at(x, second, 0, 0);
        at(x, third, 0, 0);
        at(x, fourth, NONE, NONE);
        at(x, last, NONE, NONE);
    }

    private static void runPushesOut() {
        Check.part("promise 7, pushing out");
        SeatOffice x = office(1, 1, 1);
        pupil(x, 0, 0, 1, 2);
        pupil(x, 0, 1, 2);
        pupil(x, 0, 0, 1);
        pupil(x, 0, 2);
        x.draw(2, 0, 1);
        x.draw(0, 1, 1);
        x.draw(1, 2, 1);
        Check.is("run()", x.run(), 3);
        at(x, 2, 0, 0);
        at(x, 0, 1, 0);
        at(x, 1, 2, 0);
        at(x, 3, NONE, NONE);
        Check.is("asked", x.seat(0, ASKED), 2);
        Check.is("asked", x.seat(1, ASKED), 2);
        Check.is("asked", x.seat(2, ASKED), 1);
        Check.is("asked", x.seat(3, ASKED), 1);
        Check.is("look(3)", x.look(3), 6);
        Check.is("look(4)", x.look(4), 3);
    }

    private static void runKinds() {
        Check.part("promise 7, kinds");
        SeatOffice x = new SeatOffice();
        x.school();
        x.kind(0, 1, 1, -1, -1);
        x.kind(0, 1, 2, 0, -1);
        x.kind(0, 0, 0, -1, -1);
        int plain = pupil(x, 0, 0);
        int both = pupil(x, 3, 0);
        int one = pupil(x, 1, 0);
        x.draw(one, 0, 1);
        Check.is("run()", x.run(), 2);
        at(x, one, 0, 0);
        at(x, both, 0, 1);
        at(x, plain, NONE, NONE);
        SeatOffice y = new SeatOffice();
        y.school();
        y.kind(0, 1, 0, -1, -1);
        y.kind(0, 1, 1, -1, -1);
        int moved = pupil(y, 1, 0);
        int better = pupil(y, 0, 0);
        y.draw(better, 0, 0);
        Check.is("run()", y.run(), 2);
        at(y, better, 0, 0);
        at(y, moved, 0, 1);
    }

    /** As many schools, kinds, seats, pupils and wishes as there may be. */
    private static SeatOffice fullOffice(int seats, int band, int flags, int... list) {
        SeatOffice x = new SeatOffice();
        for (int s = 0; s < 6; s++) {
            x.school();
            for (int k = 0; k < 3; k++) {
                x.kind(s, seats, band, band, band);
            }
        }
        for (int p = 0; p < 20; p++) {
            pupil(x, flags, list);
        }
        return x;
    }

    private static void runFull() {
        Check.part("promise 7, full");
        SeatOffice x = fullOffice(6, 0, 0, 5, 0, 4, 1);
        Check.is("run()", x.run(), 20);
        for (int p = 0; p < 18; p++) {
            at(x, p, 5, p / 6);
        }
        at(x, 18, 0, 0);
        at(x, 19, 0, 0);
        Check.is("look(3)", x.look(3), 22);
        Check.is("blocking(-1)", x.blocking(-1), 0);
        Check.is("last", x.held(5, 2, 2), 17);
        SeatOffice y = fullOffice(0, 0, 0, 5, 0, 4, 1);
        Check.is("run() without seats", y.run(), 0);
        Check.is("everybody asks everywhere", y.look(3), 80);
        Check.is("why", y.why(19, 5), 4);
        Check.is("why", y.why(19, 3), 1);
        Check.is("blocking(-1)", y.blocking(-1), 0);
        SeatOffice z = fullOffice(6, 1, 0, 5, 0, 4, 1);
        Check.is("run() with nobody eligible", z.run(), 0);
        Check.is("everybody asks everywhere", z.look(3), 80);
        Check.is("why", z.why(19, 5), 2);
        SeatOffice d = fullOffice(6, 0, 0, 5);
        for (int p = 0; p < 20; p++) {
            Check.yes("draw", d.draw(p, 5, 19 - p));
        }
        Check.denied("draw of pupil 20", () -> d.draw(20, 5, 500));
        Check.is("run() with numbers turned round", d.run(), 18);
        at(d, 19, 5, 0);
        at(d, 2, 5, 2);
        at(d, 1, NONE, NONE);
    }

    // ---- 8

    private static void answer() {
        Check.part("promise 8");
        SeatOffice x = office(1, 1);
        int p = pupil(x, 0, 0);
        int q = pupil(x, 0, 0);
        int r = pupil(x, 0, 1);
        for (int what = 0; what < 3; what++) {
            int asked = what;
            Check.denied("answer before the round", () -> x.answer(p, asked));
        }
        x.run();
        Check.denied("answer of no pupil", () -> x.answer(3, LEAVE));
        Check.denied("answer of pupil -1", () -> x.answer(-1, LEAVE));
        Check.denied("answer -1", () -> x.answer(p, -1));
        Check.denied("answer 3", () -> x.answer(p, 3));
        Check.denied("accept without a seat", () -> x.answer(q, ACCEPT));
        Check.denied("decline without a seat", () -> x.answer(q, DECLINE));
        Check.yes("leave without a seat", x.answer(q, LEAVE));
        Check.is("answered", x.seat(q, ANSWERED), 3);
        Check.yes("accept", x.answer(p, ACCEPT));
        at(x, p, 0, 0);
        Check.is("answered", x.seat(p, ANSWERED), 1);
        Check.denied("accept again", () -> x.answer(p, ACCEPT));
        Check.denied("decline behind accepting", () -> x.answer(p, DECLINE));
        Check.yes("leave behind accepting", x.answer(p, LEAVE));
        Check.is("answered", x.seat(p, ANSWERED), 3);
        at(x, p, NONE, NONE);
        Check.is("holders", x.held(0, 0, 1), 0);
        for (int what = 0; what < 3; what++) {
            int asked = what;
            Check.denied("answer of one that has left", () -> x.answer(p, asked));
        }
        Check.yes("decline", x.answer(r, DECLINE));
        at(x, r, NONE, NONE);
        Check.is("answered", x.seat(r, ANSWERED), 2);
        Check.is("holders", x.held(1, 0, 1), 0);
        Check.denied("decline again", () -> x.answer(r, DECLINE));
        Check.denied("accept behind declining", () -> x.answer(r, ACCEPT));
        Check.yes("leave behind declining", x.answer(r, LEAVE));
        Check.is("answered", x.seat(r, ANSWERED), 3);
    }

    private static void answerOnce() {
        Check.part("promise 8, once in all");
        SeatOffice x = office(1, 1);
        int p = pupil(x, 0, 0);
        int q = pupil(x, 0, 0, 1);
        x.run();
        Check.yes("accept", x.answer(q, ACCEPT));
        x.stay(q, 1);
        Check.yes("decline", x.answer(p, DECLINE));
        Check.is("chain()", x.chain(), 1);
        at(x, q, 0, 0);
        Check.is("answered before it moved", x.seat(q, ANSWERED), 1);
        Check.denied("accept with another seat", () -> x.answer(q, ACCEPT));
        Check.denied("decline with another seat", () -> x.answer(q, DECLINE));
        Check.yes("leave", x.answer(q, LEAVE));
        x.stay(p, 1);
        Check.is("chain() behind declining", x.chain(), 1);
        at(x, p, 0, 0);
        Check.is("declined, whatever seat came since", x.seat(p, ANSWERED), 2);
        Check.denied("accept behind declining", () -> x.answer(p, ACCEPT));
        Check.denied("decline a second seat", () -> x.answer(p, DECLINE));
    }

    private static void answerAboveNumber() {
        Check.part("promise 8, above number");
        SeatOffice x = office(1, 0);
        int p = pupil(x, 0, 0);
        int q = pupil(x, 0, 0, 1);
        int r = pupil(x, 0, 0);
        x.run();
        x.over(q, 1);
        Check.yes("accept above number", x.answer(q, ACCEPT));
        x.over(r, 0);
        Check.yes("decline above number", x.answer(r, DECLINE));
        at(x, r, NONE, NONE);
        at(x, q, 1, NONE);
        at(x, p, 0, 0);
        x.over(r, 0);
        Check.denied("accept behind declining", () -> x.answer(r, ACCEPT));
        Check.yes("leave above number", x.answer(r, LEAVE));
        at(x, r, NONE, NONE);
    }

    // ---- 9

    private static void stay() {
        Check.part("promise 9");
        SeatOffice x = office(1, 1);
        int p = pupil(x, 0, 0);
        int q = pupil(x, 0, 0, 1);
        Check.denied("stay before the round", () -> x.stay(p, 1));
        x.run();
        Check.is("stays at first", x.seat(q, STAYS), 0);
        Check.denied("stay of no pupil", () -> x.stay(2, 1));
        Check.denied("stay of pupil -1", () -> x.stay(-1, 1));
        Check.denied("stay to -1", () -> x.stay(q, -1));
        Check.denied("stay to 5", () -> x.stay(q, 5));
        Check.yes("stay to 4 of a list of 2", x.stay(q, 4));
        Check.is("stays", x.seat(q, STAYS), 4);
        Check.denied("stay to 5 behind another", () -> x.stay(q, 5));
        Check.yes("a later stay", x.stay(q, 2));
        Check.is("stays", x.seat(q, STAYS), 2);
        Check.yes("stay to 0", x.stay(q, 0));
        Check.is("stays", x.seat(q, STAYS), 0);
        x.stay(q, 3);
        Check.yes("accepting", x.answer(q, ACCEPT));
        Check.is("stays behind accepting", x.seat(q, STAYS), 3);
        x.stay(p, 1);
        Check.yes("declining", x.answer(p, DECLINE));
        Check.is("stays behind declining", x.seat(p, STAYS), 0);
        Check.is("nobody but q waits", x.chain(), 1);
        at(x, q, 0, 0);
        Check.is("stays behind moving", x.seat(q, STAYS), 3);
        Check.yes("stay again behind declining", x.stay(p, 2));
        Check.is("stays", x.seat(p, STAYS), 2);
        x.answer(p, LEAVE);
        Check.is("stays behind leaving", x.seat(p, STAYS), 0);
        Check.denied("stay behind leaving", () -> x.stay(p, 1));
        Check.denied("stay to 0 behind leaving", () -> x.stay(p, 0));
    }

    private static void stayPlaces() {
        Check.part("promise 9, places");
        SeatOffice x = office(1, 1, 1, 1);
        for (int s = 0; s < 4; s++) {
            pupil(x, 0, s);
        }
        int p = pupil(x, 0, 0, 1, 2, 3);
        x.run();
        x.answer(1, LEAVE);
        Check.is("nobody waits at first", x.chain(), 0);
        x.stay(p, 1);
        Check.is("waits for its first place alone", x.chain(), 0);
        x.stay(p, 2);
        Check.is("waits for two places", x.chain(), 1);
        at(x, p, 1, 0);
        x.answer(2, LEAVE);
        x.answer(3, LEAVE);
        x.stay(p, 4);
        Check.is("waits for none below its own", x.chain(), 0);
        x.answer(0, LEAVE);
        x.stay(p, 0);
        Check.is("waits for nothing", x.chain(), 0);
        x.stay(p, 1);
        Check.is("waits above its own", x.chain(), 1);
        at(x, p, 0, 0);
        x.over(p, 2);
        x.stay(p, 0);
        Check.is("above number, waits for nothing", x.chain(), 0);
        x.stay(p, 4);
        Check.is("above number, waits above its own", x.chain(), 1);
        at(x, p, 0, 0);
    }

    // ---- 10

    private static void chain() {
        Check.part("promise 10");
        SeatOffice x = office(1, 1, 1);
        pupil(x, 0, 0);
        pupil(x, 0, 0, 1);
        pupil(x, 0, 1, 2);
        pupil(x, 0, 2);
        Check.badState("chain() before the round", x::chain);
        Check.is("run()", x.run(), 3);
        Check.is("nobody waits", x.chain(), 0);
        for (int p = 1; p < 4; p++) {
            x.stay(p, 4);
        }
        Check.is("nothing is free", x.chain(), 0);
        x.answer(0, LEAVE);
        Check.is("one moves behind another", x.chain(), 3);
        at(x, 1, 0, 0);
        at(x, 2, 1, 0);
        at(x, 3, 2, 0);
        Check.is("nothing is free again", x.chain(), 0);
        x.answer(3, DECLINE);
        Check.is("declining ends waiting", x.chain(), 0);
        Check.is("holders", x.held(2, 0, 1), 0);
        Check.is("asked in the round", x.seat(3, ASKED), 1);
        Check.is("asked in the round in all", x.look(3), 6);
    }

    private static void chainOrder() {
        Check.part("promise 10, order");
        SeatOffice x = office(1, 1);
        pupil(x, 0, 0);
        pupil(x, 0, 1);
        int a = pupil(x, 0, 1, 0);
        int b = pupil(x, 0, 0);
        x.run();
        x.answer(0, LEAVE);
        x.answer(1, LEAVE);
        x.stay(a, 2);
        x.stay(b, 1);
        Check.is("the first school first", x.chain(), 3);
        at(x, a, 1, 0);
        at(x, b, 0, 0);

        SeatOffice y = new SeatOffice();
        y.school();
        y.kind(0, 1, 1, -1, -1);
        y.kind(0, 1, 8, 4, 0);
        pupil(y, 1, 0);
        pupil(y, 8, 0);
        int late = latePupil(y, 8, 0);
        int plain = pupil(y, 0, 0);
        int great = pupil(y, 4, 0);
        int less = pupil(y, 4, 0);
        int either = pupil(y, 5, 0);
        y.draw(0, 0, 0);
        y.draw(1, 0, 1);
        y.draw(late, 0, 2);
        y.draw(plain, 0, 3);
        y.draw(great, 0, 9);
        y.draw(less, 0, 8);
        Check.is("run()", y.run(), 2);
        y.answer(0, LEAVE);
        y.answer(1, LEAVE);
        for (int p = 2; p < 7; p++) {
            y.stay(p, 1);
        }
        Check.is("chain()", y.chain(), 2);
        at(y, either, 0, 0);
        at(y, less, 0, 1);
        y.answer(less, LEAVE);
        Check.is("the greater number then", y.chain(), 1);
        at(y, great, 0, 1);
        y.answer(great, LEAVE);
        Check.is("the lesser band then", y.chain(), 1);
        at(y, plain, 0, 1);
        y.answer(plain, LEAVE);
        Check.is("the late one last", y.chain(), 1);
        at(y, late, 0, 1);
    }

    private static void chainIneligible() {
        Check.part("promise 10, eligible");
        SeatOffice x = new SeatOffice();
        x.school();
        x.kind(0, 1, 1, -1, -1);
        x.kind(0, 1, 0, -1, -1);
        int one = pupil(x, 1, 0);
        int two = pupil(x, 1, 0);
        int three = pupil(x, 0, 0);
        Check.is("run()", x.run(), 2);
        x.stay(three, 4);
        x.answer(one, LEAVE);
        Check.is("not eligible for the free kind", x.chain(), 0);
        x.appeal(two, 0);
        Check.is("a holder that is not eligible holds on", x.chain(), 0);
        x.appeal(three, 1);
        Check.is("flags as they are now", x.chain(), 1);
        at(x, three, 0, 0);
        at(x, two, 0, 1);
        x.appeal(three, 0);
        Check.is("none who waits", x.chain(), 0);
        at(x, three, 0, 0);

        SeatOffice y = office(1);
        int p = pupil(y, 0, 0);
        int q = pupil(y, 0, 0);
        int r = pupil(y, 0, 0);
        y.run();
        y.over(q, 0);
        y.stay(q, 1);
        y.answer(p, LEAVE);
        Check.is("above number one does not wait for one's own", y.chain(), 0);
        y.stay(r, 1);
        Check.is("above number one holds no kind's seat", y.chain(), 1);
        at(y, r, 0, 0);
        at(y, q, 0, NONE);
    }

    private static void chainFull() {
        Check.part("promise 10, full");
        SeatOffice x = fullOffice(6, 1, 0, 5, 4, 3, 2);
        x.run();
        for (int p = 0; p < 20; p++) {
            x.appeal(p, 1);
            x.stay(p, 4);
        }
        Check.is("all are blocking", x.blocking(-1), 80);
        Check.is("the last pair", x.blocking(79), 8 * 19 + 2);
        Check.is("18 move up four places, two up three", x.chain(), 78);
        at(x, 0, 5, 0);
        at(x, 17, 5, 2);
        at(x, 19, 4, 0);
        Check.is("placed", x.look(4), 20);
        Check.is("chain() again", x.chain(), 0);
    }

    // ---- 11

    private static void appeal() {
        Check.part("promise 11");
        SeatOffice x = new SeatOffice();
        x.school();
        x.kind(0, 1, 1, -1, -1);
        int p = pupil(x, 1, 0);
        int q = pupil(x, 0, 0);
        Check.denied("appeal of no pupil", () -> x.appeal(2, 0));
        Check.denied("appeal of pupil -1", () -> x.appeal(-1, 0));
        Check.denied("flags -1", () -> x.appeal(p, -1));
        Check.denied("flags 16", () -> x.appeal(p, 16));
        Check.yes("appeal before the round", x.appeal(p, 0));
        Check.yes("appeal before the round", x.appeal(q, 15));
        Check.is("flags", x.seat(p, FLAGS), 0);
        Check.is("flags", x.seat(q, FLAGS), 15);
        x.run();
        at(x, p, NONE, NONE);
        at(x, q, 0, 0);
        x.answer(p, LEAVE);
        Check.yes("appeal of one that has left", x.appeal(p, 9));
        Check.is("flags", x.seat(p, FLAGS), 9);
        Check.denied("flags 16 behind the round", () -> x.appeal(p, 16));
        Check.is("left", x.seat(p, ANSWERED), 3);
    }

    private static void appealBehindRound() {
        Check.part("promise 11, behind the round");
        SeatOffice x = new SeatOffice();
        x.school();
        x.kind(0, 1, 1, 0, -1);
        int p = pupil(x, 0, 0);
        int q = pupil(x, 0, 0);
        x.run();
        Check.is("blocking(-1)", x.blocking(-1), 0);
        Check.yes("appeal", x.appeal(q, 1));
        at(x, p, 0, 0);
        at(x, q, NONE, NONE);
        Check.is("it counts from then on", x.blocking(-1), 1);
        Check.yes("it envies", x.envies(q, p));
        x.stay(q, 1);
        Check.is("nobody loses a seat", x.chain(), 0);
        at(x, p, 0, 0);
    }

    // ---- 12

    private static void over() {
        Check.part("promise 12");
        SeatOffice x = office(1, 1, 1);
        int p = pupil(x, 0, 0, 1);
        int q = pupil(x, 0, 0);
        Check.badState("over before the round", () -> x.over(p, 0) ? 1 : 0);
        Check.badArgument("of no pupil before the round", () -> x.over(2, 0) ? 1 : 0);
        Check.badArgument("not in its list before the round", () -> x.over(p, 2) ? 1 : 0);
        x.run();
        Check.badArgument("over of no pupil", () -> x.over(2, 0) ? 1 : 0);
        Check.badArgument("over of pupil -1", () -> x.over(-1, 0) ? 1 : 0);
        Check.badArgument("a school that is not in its list", () -> x.over(q, 2) ? 1 : 0);
        Check.badArgument("no school", () -> x.over(q, 3) ? 1 : 0);
        Check.badArgument("school -1", () -> x.over(q, -1) ? 1 : 0);
        Check.badArgument("one where it has a seat", () -> x.over(p, 0) ? 1 : 0);
        Check.yes("over", x.over(q, 0));
        at(x, q, 0, NONE);
        Check.badArgument("one where it is above number", () -> x.over(q, 0) ? 1 : 0);
        Check.is("placed", x.look(4), 2);
        Check.is("holders", x.held(0, 0, 1), 1);
        x.answer(q, DECLINE);
        Check.yes("over behind declining", x.over(q, 0));
        at(x, q, 0, NONE);
        x.answer(q, LEAVE);
        Check.badState("over of one that has left", () -> x.over(q, 0) ? 1 : 0);
        Check.badArgument("of one that has left, not in its list", () -> x.over(q, 1) ? 1 : 0);
    }

    private static void overFreesSeat() {
        Check.part("promise 12, the old seat");
        SeatOffice x = office(1, 0);
        int p = pupil(x, 0, 0, 1);
        int q = pupil(x, 8, 0);
        x.run();
        x.stay(p, 3);
        x.stay(q, 1);
        Check.yes("over to a lower school", x.over(p, 1));
        at(x, p, 1, NONE);
        Check.is("holders", x.held(0, 0, 1), 0);
        Check.is("holders above number", x.held(1, 0, 1), 0);
        Check.is("stays", x.seat(p, STAYS), 3);
        Check.is("no answer", x.seat(p, ANSWERED), 0);
        Check.is("asked", x.seat(p, ASKED), 1);
        x.stay(p, 0);
        Check.is("the old seat is free", x.chain(), 1);
        at(x, q, 0, 0);
        Check.yes("over up again", x.over(p, 0));
        at(x, p, 0, NONE);
        SeatOffice y = new SeatOffice();
        y.school();
        int r = pupil(y, 0, 0);
        y.run();
        Check.yes("over at a school without kinds", y.over(r, 0));
        at(y, r, 0, NONE);
    }

    // ---- 13

    private static void seat() {
        Check.part("promise 13");
        SeatOffice x = office(0, 1);
        int p = pupil(x, 6, 0, 1);
        int[] before = {NONE, NONE, 0, 0, 0, 6};
        for (int w = 0; w < 6; w++) {
            Check.is("before the round, w = " + w, x.seat(p, w), before[w]);
        }
        x.run();
        x.stay(p, 1);
        x.answer(p, ACCEPT);
        int[] behind = {1, 0, 2, 1, 1, 6};
        for (int w = 0; w < 6; w++) {
            Check.is("behind the round, w = " + w, x.seat(p, w), behind[w]);
        }
        x.over(p, 0);
        Check.is("the school above number", x.seat(p, AT), 0);
        Check.is("the kind above number", x.seat(p, KIND), NONE);
        x.answer(p, LEAVE);
        int[] left = {NONE, NONE, 2, 3, 0, 6};
        for (int w = 0; w < 6; w++) {
            Check.is("left, w = " + w, x.seat(p, w), left[w]);
        }
        Check.is("w = 6", x.seat(p, 6), NONE);
        Check.is("w = -1", x.seat(p, -1), NONE);
        Check.is("of no pupil", x.seat(1, FLAGS), NONE);
        Check.is("of pupil -1", x.seat(-1, FLAGS), NONE);
        Check.is("of pupil 20", x.seat(20, FLAGS), NONE);
    }

    // ---- 14

    private static void held() {
        Check.part("promise 14");
        SeatOffice x = office(2, 1);
        pupil(x, 0, 0);
        pupil(x, 0, 0);
        pupil(x, 0, 0);
        Check.is("seats before the round", x.held(0, 0, 0), 2);
        Check.is("holders before the round", x.held(0, 0, 1), 0);
        Check.is("last before the round", x.held(0, 0, 2), NONE);
        x.run();
        Check.is("seats", x.held(0, 0, 0), 2);
        Check.is("holders", x.held(0, 0, 1), 2);
        Check.is("last", x.held(0, 0, 2), 1);
        x.over(2, 0);
        Check.is("holders, one above number", x.held(0, 0, 1), 2);
        Check.is("last, one above number", x.held(0, 0, 2), 1);
        Check.is("no holders", x.held(1, 0, 1), 0);
        Check.is("last of no holders", x.held(1, 0, 2), NONE);
        Check.is("w = 3", x.held(0, 0, 3), NONE);
        Check.is("w = -1", x.held(0, 0, -1), NONE);
        Check.is("no such kind", x.held(0, 1, 0), NONE);
        Check.is("kind 3", x.held(0, 3, 0), NONE);
        Check.is("kind -1", x.held(0, -1, 1), NONE);
        Check.is("no such school", x.held(2, 0, 0), NONE);
        Check.is("school 6", x.held(6, 0, 0), NONE);
        Check.is("school -1", x.held(-1, 0, 0), NONE);
    }

    private static void heldLast() {
        Check.part("promise 14, the last");
        SeatOffice x = new SeatOffice();
        x.school();
        x.kind(0, 5, 8, 4, 2);
        latePupil(x, 8, 0);
        pupil(x, 2, 0);
        pupil(x, 4, 0);
        pupil(x, 4, 0);
        pupil(x, 8, 0);
        x.draw(0, 0, 1);
        x.draw(1, 0, 2);
        x.draw(2, 0, 900);
        x.draw(3, 0, 800);
        Check.is("run()", x.run(), 5);
        Check.is("the late one", x.held(0, 0, 2), 0);
        x.appeal(2, 0);
        Check.is("one not eligible", x.held(0, 0, 2), 2);
        x.appeal(1, 0);
        Check.is("of two not eligible the greater", x.held(0, 0, 2), 2);
        x.appeal(3, 1);
        Check.is("of three not eligible the greatest", x.held(0, 0, 2), 3);
        x.appeal(1, 2);
        x.appeal(2, 4);
        x.appeal(3, 4);
        x.answer(0, LEAVE);
        Check.is("the last band", x.held(0, 0, 2), 1);
        x.answer(1, DECLINE);
        Check.is("the greater number", x.held(0, 0, 2), 2);
        x.appeal(4, 2);
        Check.is("by what is now", x.held(0, 0, 2), 4);
        Check.is("holders", x.held(0, 0, 1), 3);
        SeatOffice y = new SeatOffice();
        y.school();
        y.kind(0, 2, 8, 0, -1);
        latePupil(y, 0, 0);
        latePupil(y, 8, 0);
        int least = pupil(y, 8, 0);
        y.draw(least, 0, 0);
        y.run();
        Check.is("of late ones the lesser band holds", y.held(0, 0, 2), 1);
        y.answer(1, LEAVE);
        Check.is("the first of all is the last, being alone", y.held(0, 0, 2), least);
    }

    // ---- 15

    private static void blocking() {
        Check.part("promise 15");
        SeatOffice x = office(1, 1, 1);
        pupil(x, 0, 2);
        pupil(x, 0, 1);
        pupil(x, 0, 2, 0, 1);
        pupil(x, 0, 1, 2);
        Check.is("before the round", x.blocking(-1), NONE);
        Check.is("before the round", x.blocking(0), NONE);
        x.run();
        Check.is("none behind the round", x.blocking(-1), 0);
        Check.is("none behind the round", x.blocking(0), NONE);
        x.answer(0, DECLINE);
        x.answer(1, LEAVE);
        int[] pairs = {2, 8 * 2 + 2, 8 * 3 + 1, 8 * 3 + 2};
        Check.is("how many", x.blocking(-1), 4);
        for (int i = 0; i < 4; i++) {
            Check.is("pair " + i, x.blocking(i), pairs[i]);
        }
        Check.is("pair 4", x.blocking(4), NONE);
        Check.is("pair -2", x.blocking(-2), NONE);
        Check.is("the least int", x.blocking(Integer.MIN_VALUE), NONE);
        x.answer(3, LEAVE);
        Check.is("one that has left does not block", x.blocking(-1), 2);
        x.over(2, 2);
        Check.is("above number, none above its own", x.blocking(-1), 1);
        Check.is("above number one holds no kind's seat", x.blocking(0), 2);
        x.over(0, 2);
        Check.is("none below or at its own", x.blocking(-1), 0);
    }

    private static void blockingPairs() {
        Check.part("promise 15, who is chosen");
        SeatOffice x = new SeatOffice();
        x.school();
        x.kind(0, 1, 1, -1, -1);
        x.kind(0, 1, 0, -1, -1);
        int one = pupil(x, 1, 0);
        int two = pupil(x, 1, 0);
        int three = pupil(x, 0, 0);
        x.run();
        x.stay(three, 1);
        Check.is("none", x.blocking(-1), 0);
        x.answer(one, LEAVE);
        Check.is("no seat for it in a chain", x.chain(), 0);
        Check.is("the school would choose both", x.blocking(-1), 1);
        Check.is("pair", x.blocking(0), 8 * three);
        x.appeal(two, 0);
        Check.is("now the holder needs its seat", x.blocking(-1), 0);

        SeatOffice y = new SeatOffice();
        y.school();
        y.kind(0, 1, 1, -1, -1);
        pupil(y, 1, 0);
        int behind = latePupil(y, 1, 0);
        int never = pupil(y, 0, 0);
        y.run();
        Check.is("none", y.blocking(-1), 0);
        y.appeal(0, 0);
        Check.is("a holder that is not eligible is not chosen", y.blocking(-1), 1);
        Check.is("pair", y.blocking(0), 8 * behind);
        y.appeal(0, 1);
        y.appeal(never, 1);
        Check.is("it stands behind the holder", y.blocking(-1), 0);
    }

    // ---- 16

    private static void envies() {
        Check.part("promise 16");
        SeatOffice x = office(1, 1, 1);
        pupil(x, 0, 0, 1);
        int b = pupil(x, 0, 0, 1);
        int c = pupil(x, 0, 2, 0);
        int d = pupil(x, 0, 1);
        Check.badArgument("envies before the round", () -> x.envies(0, 1) ? 1 : 0);
        x.draw(d, 0, 1);
        x.draw(b, 1, 5);
        x.run();
        Check.badArgument("of no pupil", () -> x.envies(4, 0) ? 1 : 0);
        Check.badArgument("of pupil -1", () -> x.envies(-1, 0) ? 1 : 0);
        Check.badArgument("envies no pupil", () -> x.envies(0, 4) ? 1 : 0);
        Check.badArgument("envies pupil -1", () -> x.envies(0, -1) ? 1 : 0);
        Check.badArgument("envies one without a seat", () -> x.envies(0, d) ? 1 : 0);
        Check.badArgument("envies oneself without a seat", () -> x.envies(d, d) ? 1 : 0);
        Check.no("envies oneself", x.envies(0, 0));
        Check.no("it stands behind", x.envies(b, 0));
        Check.no("none below its own", x.envies(c, 0));
        Check.no("not in its list", x.envies(d, 0));
        x.over(0, 1);
        Check.badArgument("envies one above number", () -> x.envies(b, 0) ? 1 : 0);
        Check.no("of one above number at the same school", x.envies(0, b));
        x.stay(b, 1);
        x.chain();
        at(x, b, 0, 0);
        Check.yes("of one above number, above its own", x.envies(0, b));
        x.answer(0, LEAVE);
        Check.yes("of one that has left", x.envies(0, b));
        Check.no("of one with that very seat", x.envies(b, b));
    }

    private static void enviesOrder() {
        Check.part("promise 16, order");
        SeatOffice x = new SeatOffice();
        x.school();
        x.kind(0, 1, 2, 1, -1);
        x.kind(0, 1, 0, -1, -1);
        int holder = pupil(x, 1, 0);
        int other = pupil(x, 0, 0);
        int late = latePupil(x, 3, 0);
        int great = pupil(x, 0, 0);
        x.draw(late, 0, 0);
        x.run();
        at(x, holder, 0, 0);
        at(x, other, 0, 1);
        Check.no("late", x.envies(late, holder));
        Check.no("not eligible for the kind", x.envies(great, holder));
        x.appeal(great, 1);
        Check.no("the greater number", x.envies(great, holder));
        x.appeal(great, 2);
        Check.yes("the lesser band", x.envies(great, holder));
        Check.no("for the other kind the greater number", x.envies(great, other));
        x.appeal(holder, 0);
        Check.no("the holder is not eligible any more", x.envies(great, holder));
        Check.no("the late one neither", x.envies(late, holder));
        Check.no("the same school is not above its own", x.envies(other, holder));
    }

    // ---- 17

    private static void why() {
        Check.part("promise 17");
        SeatOffice x = new SeatOffice();
        for (int s = 0; s < 5; s++) {
            x.school();
        }
        x.kind(0, 1, 0, -1, -1);
        x.kind(1, 1, 0, -1, -1);
        x.kind(2, 1, 8, -1, -1);
        x.kind(2, 0, 4, -1, -1);
        x.kind(3, 1, 0, -1, -1);
        int first = pupil(x, 0, 0);
        int p = pupil(x, 0, 0, 1, 2, 3);
        Check.is("before the round", x.why(p, 0), 4);
        Check.is("before the round", x.why(p, 1), 4);
        Check.is("before the round, not eligible", x.why(p, 2), 2);
        Check.is("before the round, not in its list", x.why(p, 4), 1);
        x.run();
        Check.is("another is there", x.why(p, 0), 4);
        Check.is("it is there", x.why(p, 1), 0);
        Check.is("not eligible, though it is higher", x.why(p, 2), 2);
        Check.is("it is higher", x.why(p, 3), 3);
        Check.is("not in its list", x.why(p, 4), 1);
        Check.is("not in its list", x.why(first, 1), 1);
        x.appeal(p, 4);
        Check.is("eligible for a kind without seats", x.why(p, 2), 3);
        x.appeal(p, 0);
        x.over(p, 2);
        Check.is("it is there above number, not eligible", x.why(p, 2), 0);
        Check.is("above number is higher", x.why(p, 3), 3);
        Check.is("above number is lower", x.why(p, 1), 4);
        x.answer(p, LEAVE);
        Check.is("left", x.why(p, 3), 4);
        Check.is("no such pupil", x.why(2, 0), NONE);
        Check.is("pupil -1", x.why(-1, 0), NONE);
        Check.is("no such school", x.why(p, 5), NONE);
        Check.is("school -1", x.why(p, -1), NONE);
    }

    // ---- 18

    private static void look() {
        Check.part("promise 18");
        SeatOffice x = office(1, 1);
        pupil(x, 0, 0, 1);
        pupil(x, 0, 0, 1);
        pupil(x, 0, 0, 1);
        int[] before = {2, 3, 0, 0, 0};
        for (int which = 0; which < 5; which++) {
            Check.is("before the round, look(" + which + ")", x.look(which), before[which]);
        }
        x.run();
        int[] behind = {2, 3, 1, 5, 2};
        for (int which = 0; which < 5; which++) {
            Check.is("behind the round, look(" + which + ")", x.look(which), behind[which]);
        }
        x.over(2, 1);
        Check.is("also above number", x.look(4), 3);
        x.answer(0, DECLINE);
        x.answer(1, LEAVE);
        Check.is("declined and left", x.look(4), 1);
        Check.is("pupils that have left, too", x.look(1), 3);
        Check.is("asked in the round in all", x.look(3), 5);
        Check.is("look(5)", x.look(5), NONE);
        Check.is("look(-1)", x.look(-1), NONE);
    }
}
