/** Promises 1 to 6 at their edges: each sentence that names one has a test of its own. */
public final class SetupEdgeTest extends Story {
    private static final int[] ANY = outside(0, 0);
    private static final String NO_SCHOOL_OR_PUPIL =
            "look 0 = 0; look 1 = 0; look 3 = 0; look 4 = 0; kind # 1 0 -1 -1 = argument; wish # 0 = argument;"
            + "wish 0 # = argument; draw # 0 1 = false; draw 0 # 1 = false; answer # 2 = false; stay # 1 = false;"
            + "appeal # 0 = false; over # 0 = argument; over 0 # = argument; seat # 0 = -1; seat 0 # = -1;"
            + "held # 0 0 = -1; held 0 # 0 = -1; held 0 0 # = -1; envies # 0 = argument; envies 0 # = argument;"
            + "why # 0 = -1; why 0 # = -1;";

    public static void main(String[] args) {
        newObject();
        schoolNumbers();
        schoolRefused();
        schoolWithoutKinds();
        kindNumbers();
        kindOfNoSchool();
        kindSeats();
        bandAbove15();
        bandBelow0();
        bandsBehindNone();
        bandFlags();
        firstBand();
        kindRefused();
        pupilFlags();
        pupilNumbers();
        pupilRefused();
        emptyList();
        wishCounts();
        wishOfNobody();
        wishThatIsThere();
        wishRefused();
        drawBounds();
        drawOfNobody();
        drawOfAnothers();
        drawOfItsOwn();
        drawOutsideList();
        drawBehindRound();
        firstNumbers();
        Check.end();
    }

    // ---- 1

    private static void newObject() {
        sentence("1: No schools, no pupils.");
        each(ANY, NO_SCHOOL_OR_PUPIL, "look 2 = 0; chain = state; blocking # = -1; blocking -1 = -1");
        story(NO_SCHOOL_OR_PUPIL.replace('#', '0'), "run = 0");
        each(ANY, "run = 0; look 2 = 1; run = state; school = state; pupil 0 = state; pupil 0 late = state",
                NO_SCHOOL_OR_PUPIL, "chain = 0; blocking -1 = 0; blocking 0 = -1");
        story("school = 0; pupil 0 = 0");
        story("pupil 0 late = 0; school = 0");
    }

    // ---- 2

    private static void schoolNumbers() {
        sentence("2: A new school: its number. SCHOOLS 0 .. 5");
        story(times(6, "look 0 = #; school = #"), "look 0 = 6");
        sentence("2: IllegalStateException if there are 6");
        story(schools(6), "school = state; look 0 = 6; school = state; look 0 = 6");
        story(full(6), "school = state; look 0 = 6");
    }

    private static void schoolRefused() {
        sentence("2: IllegalStateException behind the round");
        for (int n : range(0, 6)) {
            story(schools(n), "school = " + (n < 6 ? String.valueOf(n) : "state"));
            story(schools(n), "run = 0; school = state; look 0 = " + n);
        }
        story(openSchools(2, 1), pupils(1, "0"), "run = 1; answer 0 2; school = state; look 0 = 2");
    }

    private static void schoolWithoutKinds() {
        sentence("2: A new school without kinds");
        story(times(6, "school; held # 0 0 = -1; held # 0 1 = -1; held # 0 2 = -1; held # 2 0 = -1"));
        story("school; pupil 15; wish 0 0; why 0 0 = 2; run = 0; seat 0 0 = -1; seat 0 2 = 1; why 0 0 = 2",
                "blocking -1 = 0; stay 0 4; chain = 0; over 0 0 = true; seat 0 0 = 0; why 0 0 = 0");
    }

    // ---- 3

    private static void kindNumbers() {
        sentence("3: One more kind for a school, behind the others: its number. KINDS 0, 1, 2");
        story(schools(6), times(6, "kind # 1 0 -1 -1 = 0; kind # 2 0 -1 -1 = 1; kind # 3 0 -1 -1 = 2"),
                times(6, "held # 0 0 = 1; held # 1 0 = 2; held # 2 0 = 3; held # 3 0 = -1"));
        sentence("3: IllegalStateException if it has 3");
        story(schools(2), times(3, "kind 0 1 0 -1 -1"), "kind 0 1 0 -1 -1 = state; kind 0 0 -1 -1 -1 = state",
                "kind 0 6 15 15 15 = state; kind 1 1 0 -1 -1 = 0");
        story(schools(6), times(3, "kind 5 1 0 -1 -1"), "kind 5 1 0 -1 -1 = state; kind 4 1 0 -1 -1 = 0");
        story("school; kind 0 1 8 4 -1; kind 0 1 8 -1 -1; kind 0 2 12 -1 -1", pupils(1, "0"),
                "kind 0 6 0 -1 -1 = state; held 0 2 0 = 2; why 0 0 = 2; run = 0; kind 0 6 0 -1 -1 = state",
                "why 0 0 = 2; held 0 2 0 = 2");
    }

    private static void kindOfNoSchool() {
        sentence("3: IllegalArgumentException if there is no such school");
        for (int n : range(0, 6)) {
            each(outside(0, n - 1), schools(n), "kind # 1 0 -1 -1 = argument; look 0 = " + n);
            each(range(0, n - 1), schools(n), "kind # 1 0 -1 -1 = 0");
        }
    }

    private static void kindSeats() {
        sentence("3: each with 0 .. 6 SEATS");
        each(range(0, 6), "school; kind 0 # 0 -1 -1 = 0; held 0 0 0 = #; held 0 0 1 = 0", pupils(7, "0"),
                "run = #; held 0 0 0 = #; held 0 0 1 = #; blocking -1 = 0; look 4 = #");
        sentence("3: IllegalArgumentException if seats is not 0 .. 6");
        each(outside(0, 6), "school; kind 0 # 0 -1 -1 = argument; held 0 0 0 = -1; kind 0 2 0 -1 -1 = 0",
                "held 0 0 0 = 2; kind 0 # 0 -1 -1 = argument; held 0 0 0 = 2; held 0 1 0 = -1");
    }

    private static int[] above15() {
        return new int[] {16, 17, 31, 32, 64, 256, 65536, 1 << 30, Integer.MAX_VALUE - 15, Integer.MAX_VALUE};
    }

    private static int[] below0() {
        return new int[] {-1, -2, -15, -16, -17, -256, -65536, -(1 << 30), Integer.MIN_VALUE + 1, Integer.MIN_VALUE};
    }

    private static void bandAbove15() {
        sentence("3: IllegalArgumentException if a band above 15");
        each(above15(), "school; kind 0 1 # 0 0 = argument; kind 0 1 0 # 0 = argument; kind 0 1 0 0 # = argument",
                "kind 0 1 # # # = argument; held 0 0 0 = -1; kind 0 1 8 -1 -1 = 0; kind 0 1 # 0 0 = argument");
        story("school; kind 0 1 15 0 0 = 0; kind 0 1 0 15 0 = 1; kind 0 1 0 0 15 = 2");
        sentence("3: all three are looked at");
        each(above15(), "school; kind 0 1 -1 # 0 = argument; kind 0 1 -1 -1 # = argument; kind 0 1 0 -1 # = argument",
                "kind 0 1 -1 # -1 = argument; kind 0 1 -2147483648 # # = argument; held 0 0 0 = -1");
    }

    private static void bandBelow0() {
        sentence("3: a band below 0 is none");
        each(below0(), schools(3), "kind 0 1 # # # = 0; kind 1 1 8 # # = 0; kind 2 1 8 4 # = 0",
                "pupil 3; wish 0 0; wish 0 1; wish 0 2; why 0 0 = 2; why 0 1 = 2; why 0 2 = 2",
                "appeal 0 4; why 0 0 = 2; why 0 1 = 2; why 0 2 = 4",
                "appeal 0 8; why 0 0 = 2; why 0 1 = 4; why 0 2 = 4",
                "run = 1; seat 0 0 = 1; seat 0 2 = 2");
        sentence("3: without any nobody is eligible");
        each(range(0, 15), "school; kind 0 6 -1 -1 -1; pupil #; wish 0 0; why 0 0 = 2; run = 0; seat 0 2 = 1",
                "stay 0 4; chain = 0; blocking -1 = 0; why 0 0 = 2; held 0 0 1 = 0; held 0 0 2 = -1");
    }

    private static void bandsBehindNone() {
        sentence("3: nor are those behind it");
        each(below0(), schools(3), "kind 0 1 # 0 0; kind 1 1 8 # 0; kind 2 1 # # 0",
                "pupil 7; wish 0 0; wish 0 1; wish 0 2; why 0 0 = 2; why 0 1 = 2; why 0 2 = 2; run = 0; seat 0 2 = 3",
                "appeal 0 15; stay 0 4; why 0 0 = 2; why 0 1 = 4; why 0 2 = 2; chain = 1; seat 0 0 = 1");
    }

    private static void bandFlags() {
        sentence("3: the first band all of whose flags the pupil has; without one not ELIGIBLE");
        for (int band : range(0, 15)) {
            for (int flags : range(0, 15)) {
                boolean hasAll = (band & ~flags) == 0;
                String rows = "pupil " + flags + "; wish 0 0; why 0 0 = " + (hasAll ? "4" : "2")
                        + "; run = " + (hasAll ? "1" : "0");
                story("school; kind 0 1 " + band + " -1 -1", rows);
                if (flags != 15) {
                    story("school; kind 0 1 15 " + band + " -1", rows);
                    story("school; kind 0 1 15 15 " + band, rows);
                }
            }
        }
    }

    private static void firstBand() {
        sentence("3: A pupil's band is the first one");
        String kinds = "school; kind 0 1 8 4 0; ";
        story(kinds, "pupil 8; wish 0 0; pupil 12; wish 1 0; draw 1 0 999; run = 1; seat 1 0 = 0");
        story(kinds, "pupil 8; wish 0 0; pupil 12; wish 1 0; draw 0 0 999; run = 1; seat 0 0 = 0");
        story(kinds, "pupil 4; wish 0 0; pupil 12; wish 1 0; draw 0 0 0; run = 1; seat 1 0 = 0");
        story(kinds, "pupil 3; wish 0 0; pupil 4; wish 1 0; draw 0 0 0; run = 1; seat 1 0 = 0");
        story("school; kind 0 1 0 8 4; pupil 3; wish 0 0; pupil 12; wish 1 0; run = 1; seat 0 0 = 0");
        story("school; kind 0 1 8 8 8; pupil 8; wish 0 0; pupil 8; wish 1 0; draw 1 0 0; run = 1; seat 1 0 = 0");
    }

    private static void kindRefused() {
        sentence("3: IllegalStateException behind the round");
        story("school; run; kind 0 1 0 -1 -1 = state; held 0 0 0 = -1");
        story(schools(2), times(3, "kind 0 1 0 -1 -1"), "run; kind 0 1 0 -1 -1 = state; kind 1 0 -1 -1 -1 = state");
        story("run; kind 0 1 0 -1 -1 = argument");
        sentence("3: a wrong argument is told before a wrong state");
        each(outside(0, 6), "school", times(3, "kind 0 1 0 -1 -1"), "kind 0 # 0 -1 -1 = argument; run",
                "kind 0 # 0 -1 -1 = argument");
        each(outside(0, 0), "school; run; kind # 1 0 -1 -1 = argument");
        each(above15(), "school", times(3, "kind 0 1 0 -1 -1"), "kind 0 1 # 0 0 = argument; kind 0 1 0 0 # = argument",
                "run; kind 0 1 0 # 0 = argument");
    }

    // ---- 4

    private static void pupilFlags() {
        sentence("4: FLAGS (bits 0 .. 3)");
        each(range(0, 15), "pupil # = 0; seat 0 5 = #; pupil # late = 1; seat 1 5 = #; look 1 = 2");
        sentence("4: IllegalArgumentException if flags is not 0 .. 15");
        each(outside(0, 15), "pupil # = argument; pupil # late = argument; look 1 = 0; seat 0 5 = -1; pupil 3 = 0",
                "pupil # = argument; look 1 = 1; seat 0 5 = 3; seat 1 5 = -1; pupil 15 = 1");
    }

    private static void pupilNumbers() {
        sentence("4: A new pupil: its number. PUPILS 0 .. 19");
        story(times(20, "look 1 = #; pupil 0 = #"), "look 1 = 20");
        story(times(20, "pupil 0 late = #"), "look 1 = 20");
        sentence("4: IllegalStateException if there are 20");
        story(times(20, "pupil 0"), "pupil 0 = state; pupil 15 late = state; look 1 = 20; pupil 0 = state",
                "seat 20 5 = -1");
        story(full(1), "pupil 0 = state; look 1 = 20");
        story(openSchools(1, 1), times(20, "pupil 0"), "wish 0 0; wish 19 0; draw 19 0 0; pupil 15 late = state",
                "seat 19 5 = 0; run; seat 19 0 = 0; seat 0 0 = -1");
        each(outside(0, 15), times(20, "pupil 0"), "pupil # = argument; look 1 = 20");
    }

    private static void pupilRefused() {
        sentence("4: IllegalStateException behind the round");
        for (int n : SOME_COUNTS) {
            story(times(n, "pupil 0"), "run = 0; pupil 0 = state; pupil 0 late = state; look 1 = " + n);
        }
        each(outside(0, 15), "run; pupil # = argument; pupil # late = argument; look 1 = 0");
    }

    private static void emptyList() {
        sentence("4: with an empty list");
        story(openSchools(6, 6), "pupil 15", times(6, "why 0 # = 1"), "run = 0; seat 0 2 = 0; seat 0 0 = -1",
                "look 3 = 0; blocking -1 = 0; stay 0 4 = true; chain = 0",
                times(6, "why 0 # = 1; over 0 # = argument"));
        story(openSchools(1, 1), "pupil 0; wish 0 0; pupil 0; run = 1; envies 1 0 = false");
    }

    // ---- 5

    private static void wishCounts() {
        sentence("5: A school goes to the end of a pupil's list: how many it has. A LIST of up to 4 schools");
        story(openSchools(6, 0), "pupil 0; wish 0 5 = 1; wish 0 0 = 2; wish 0 4 = 3; wish 0 2 = 4; run = 0",
                "seat 0 2 = 4");
        String list = "pupil 0; wish 0 3; wish 0 1; wish 0 2; wish 0 0; ";
        story(schools(4), "kind 0 1 0 -1 -1; kind 2 1 0 -1 -1", list, "run; seat 0 0 = 2; seat 0 2 = 3");
        story(schools(4), "kind 0 1 0 -1 -1; kind 1 1 0 -1 -1", list, "run; seat 0 0 = 1; seat 0 2 = 2");
        story(schools(4), "kind 0 1 0 -1 -1", list, "run; seat 0 0 = 0; seat 0 2 = 4");
        sentence("5: IllegalStateException if it has 4");
        story(schools(6), "pupil 0", times(4, "wish 0 #"), "wish 0 4 = state; wish 0 5 = state; why 0 4 = 1",
                "why 0 5 = 1; pupil 0; wish 1 4 = 1");
        story(full(1), "wish 0 2 = state; wish 19 3 = state; wish 19 5 = argument; why 19 3 = 1");
    }

    private static void wishOfNobody() {
        sentence("5: IllegalArgumentException if there is no such pupil");
        for (int n : SOME_COUNTS) {
            each(outside(0, n - 1), "school", times(n, "pupil 0"), "wish # 0 = argument");
        }
        story("school", times(20, "pupil 0"), times(20, "wish # 0 = 1"));
        sentence("5: IllegalArgumentException if there is no such school");
        for (int n : range(0, 6)) {
            each(outside(0, n - 1), schools(n), "pupil 0; wish 0 # = argument");
            each(range(0, n - 1), schools(n), "pupil 0; wish 0 # = 1; why 0 # = 2");
        }
        each(outside(0, 4), schools(5), "pupil 0", times(4, "wish 0 #"), "wish 0 # = argument");
    }

    private static void wishThatIsThere() {
        sentence("5: IllegalArgumentException if it is there. All different");
        story(openSchools(4, 1), "pupil 0", times(4, "wish 0 #; wish 0 # = argument; wish 0 0 = argument"),
                times(4, "wish 0 # = argument"), "pupil 0; wish 1 3 = 1");
        story(openSchools(1, 1), "pupil 0; wish 0 0; run; wish 0 0 = argument");
    }

    private static void wishRefused() {
        sentence("5: IllegalStateException behind the round");
        story(openSchools(5, 1), "pupil 0; pupil 0; wish 1 0; pupil 0", times(4, "wish 2 #"), "run",
                "wish 0 0 = state; why 0 0 = 1; wish 1 1 = state; why 1 1 = 1; wish 2 4 = state; why 2 4 = 1");
        each(outside(0, 0), "school; pupil 0; run; wish # 0 = argument; wish 0 # = argument");
    }

    // ---- 6

    private static void drawBounds() {
        sentence("6: false if n is not 0 .. 999");
        each(new int[] {0, 1, 500, 998, 999}, "school; pupil 0; draw 0 0 # = true; draw 0 0 # = true");
        each(outside(0, 999), openSchools(1, 1), pupils(2, "0"), "draw 1 0 # = false; draw 0 0 # = false",
                "draw 1 0 5; draw 1 0 # = false; draw 0 0 5 = false; run = 1; seat 1 0 = 0");
        each(range(1000, 1019), "school", times(20, "pupil 0"), "draw 0 0 # = false; draw 19 0 # = false");
        sentence("6: The pupil's NUMBER becomes n, 0 before 1 and 998 before 999");
        story(openSchools(1, 1), pupils(2, "0"), "draw 0 0 1; draw 1 0 0; run; seat 1 0 = 0; seat 0 0 = -1");
        story(openSchools(1, 1), pupils(2, "0"), "draw 0 0 999; draw 1 0 998; run; seat 1 0 = 0; seat 0 0 = -1");
        story(openSchools(1, 1), pupils(2, "0"), "draw 1 0 998; draw 0 0 0; draw 0 0 999; run; seat 1 0 = 0");
    }

    private static void drawOfNobody() {
        sentence("6: false if there is no such pupil or school");
        for (int n : SOME_COUNTS) {
            each(outside(0, n - 1), "school", times(n, "pupil 0"), "draw # 0 5 = false");
        }
        for (int n : range(0, 6)) {
            each(outside(0, n - 1), schools(n), "pupil 0; draw 0 # 5 = false");
        }
        story(schools(6), times(20, "pupil 0"), "draw 0 0 5 = true; draw 0 5 5 = true; draw 19 0 6 = true",
                "draw 19 5 6 = true");
    }

    private static void drawOfAnothers() {
        sentence("6: false if another pupil has it there");
        each(new int[] {0, 1, 500, 999}, openSchools(1, 1), times(20, "pupil 0"), "wish 7 0; wish 0 0; draw 7 0 #",
                "draw 0 0 # = false; draw 6 0 # = false; draw 8 0 # = false; draw 19 0 # = false; run; seat 7 0 = 0");
        story(openSchools(1, 1), times(20, "pupil 0"), "draw 0 0 4; draw 19 0 5; draw 0 0 5 = false",
                "draw 19 0 4 = false");
        sentence("6: one that nobody has any more is free");
        story("school; pupil 0; pupil 0; draw 0 0 7; draw 1 0 7 = false; draw 0 0 8; draw 1 0 7 = true",
                "draw 0 0 7 = false");
        sentence("6: another school's number is not in the way");
        story(schools(6), "pupil 0; pupil 0", times(6, "draw 0 # 3 = true"), "draw 1 5 3 = false; draw 1 5 4 = true",
                "draw 1 0 4 = true");
    }

    private static void drawOfItsOwn() {
        sentence("6: its own again is true");
        each(new int[] {0, 999}, openSchools(1, 1), pupils(2, "0"), "draw 1 0 # = true; draw 1 0 # = true",
                "draw 0 0 # = false; draw 1 0 # = true; run; seat 1 0 = 0");
    }

    private static void drawOutsideList() {
        sentence("6: The school need not be in its list");
        story(openSchools(1, 1), "pupil 0; pupil 0; draw 1 0 5 = true; draw 0 0 5 = false; wish 0 0; wish 1 0; run",
                "seat 1 0 = 0");
        story(schools(6), "pupil 0", times(6, "draw 0 # 999 = true"));
    }

    private static void drawBehindRound() {
        sentence("6: false if the round was");
        story(openSchools(1, 1), pupils(3, "0"), "draw 2 0 5; run; draw 2 0 5 = false; draw 0 0 1 = false",
                "draw 1 0 9 = false; stay 0 1; stay 1 1; answer 2 2; draw 1 0 0 = false; chain = 1; seat 0 0 = 0");
        story("school; pupil 0; run; draw 0 0 0 = false");
    }

    private static void firstNumbers() {
        sentence("6: a NUMBER, at first 1000 + the pupil's own");
        story(openSchools(1, 6), pupils(20, "0"), "run = 6", times(6, "seat # 0 = 0"), "held 0 0 2 = 5");
        story(openSchools(1, 1), pupils(20, "0"), "draw 19 0 999; run = 1; seat 19 0 = 0; envies 0 19 = false");
        story("school; pupil 0", openSchools(1, 1).replace("school; ", ""), "pupil 0; wish 1 0; wish 0 0; run",
                "seat 0 0 = 0");
        story("pupil 0; pupil 0", openSchools(6, 1), "wish 1 5; wish 0 5; run; seat 0 0 = 5");
    }
}
