import java.util.ArrayList;
import java.util.List;

/**
 * The document from its first line to the end of its Terms, sentence by sentence: runs of calls in
 * which the things that a sentence speaks of meet.
 */
public final class TermsTest extends Story {
    private static final int NOT_ELIGIBLE = 3;
    private static final int[] SOME_BANDS = {-1, 0, 1, 2, 3, 6};
    private static final int[] SOME_FLAGS = {0, 1, 2, 3, 6, 7, 15};

    /** Of a pupil's band in a kind with the bands 8, 4 and 2, and of one that is not eligible. */
    private static final int[] FLAGS_OF_BAND = {8, 4, 2};
    private static final int FLAGS_OF_NONE = 1;

    /** A kind for some and two for anybody, each with an order of its own. */
    private static final String[] KINDS = {"1 1 -1 -1", "2 2 1 0", "1 4 0 -1"};
    private static final String SEVEN_PUPILS =
            "pupil 0; pupil 1; pupil 3; pupil 2 late; pupil 4; pupil 1; pupil 0 late; " + times(7, "wish # 0");

    public static void main(String[] args) {
        wholeOffice();
        lengthOfUse();
        Document.wholeSection("What it is");
        makings();
        bandOfPupil();
        listsAndNumbers();
        standingBefore();
        choosing();
        theRound();
        whoAsksFirst();
        placedWithKind();
        acceptOrDecline();
        leaving();
        waiting();
        waitingEndsAndBegins();
        chains();
        chainsByKinds();
        flagsOfNow();
        aboveNumberInChains();
        appealBeforeRound();
        appealBehindRound();
        aboveNumber();
        blockingPairs();
        refusedCalls();
        noneConstant();
        Document.wholeSection("Terms");
        Check.end();
    }

    // ---- What it is

    private static void wholeOffice() {
        Document.quote("Places pupils at schools whose seats are of several kinds, each with an order of its own: a"
                + " round in which pupils ask down their lists and schools hold whom they choose; then answers, chains"
                + " in which free seats are offered on, appeals, and admissions above number; and a look at why"
                + " somebody is where.");
        story("school = 0; kind 0 1 1 -1 -1 = 0; kind 0 1 2 0 -1 = 1; school = 1; kind 1 1 0 -1 -1 = 0",
                "pupil 1 = 0; wish 0 0 = 1; wish 0 1 = 2; pupil 3 = 1; wish 1 0 = 1; wish 1 1 = 2",
                "pupil 0 = 2; wish 2 0 = 1; wish 2 1 = 2; pupil 2 late = 3; wish 3 1 = 1; wish 3 0 = 2",
                "run = 3; look 3 = 6; seat 0 0 = 0; seat 0 1 = 0; seat 1 0 = 0; seat 1 1 = 1; seat 2 0 = 1",
                "seat 3 0 = -1; why 0 0 = 0; why 0 1 = 3; why 2 0 = 4; why 3 1 = 4; blocking -1 = 0",
                "stay 2 1 = true; stay 3 2 = true; answer 0 0 = true; answer 1 1 = true; seat 1 0 = -1",
                "chain = 2; seat 2 0 = 0; seat 2 1 = 1; seat 3 0 = 1; look 4 = 3",
                "over 1 1 = true; seat 1 0 = 1; seat 1 1 = -1; look 4 = 4; held 1 0 1 = 1; held 0 1 2 = 2",
                "blocking -1 = 1; blocking 0 = 8; envies 1 2 = true; envies 1 0 = false; why 1 0 = 4",
                "appeal 2 2 = true; blocking -1 = 1; appeal 1 0 = true; blocking -1 = 0; envies 1 2 = false",
                "answer 0 2 = true; stay 1 1 = true; chain = 0; appeal 1 1 = true; chain = 1; seat 1 1 = 0");
    }

    private static void lengthOfUse() {
        Document.quote("An object is used for at most 512 calls after it has been made; what later calls answer is"
                + " free.");
        String first = TWO_SEATS + "run; stay 1 1; stay 2 2; ";
        int before = made(first).calls();
        story(first, times(Office.MOST_CALLS - before - 6, "seat 2 4 = 2"),
                "answer 0 1 = true; chain = 2; seat 1 0 = 0; seat 2 0 = 1; look 4 = 2; blocking -1 = 2");
        story(first, times(Office.MOST_CALLS - before - 2, "look 5 = -1"), "answer 0 2 = true; chain = 2");
    }

    // ---- Terms: what there is

    private static void makings() {
        Document.quote("SCHOOLS 0 .. 5 have up to 3 KINDS 0, 1, 2, each with 0 .. 6 SEATS and up to 3 BANDS, which are"
                + " sets of FLAGS (bits 0 .. 3).");
        String kinds = "kind # 1 15 -1 -1 = 0; kind # 0 0 8 -1 = 1; kind # 6 1 2 4 = 2; kind # 1 0 0 0 = state";
        story(times(6, "school = #; " + kinds), "school = state",
                times(6, "held # 0 0 = 1; held # 1 0 = 0; held # 2 0 = 6; held # 3 0 = -1"), "pupil 15; wish 0 5",
                        "pupil 15; wish 1 5; pupil 8; wish 2 5; pupil 4; wish 3 5; run = 3",
                "seat 0 1 = 0; seat 1 1 = 2; seat 2 0 = -1; seat 3 1 = 2");
        for (int bit : range(0, 3)) {
            int alone = 1 << bit;
            story("school; kind 0 6 " + alone + " -1 -1; pupil 1; pupil 2; pupil 4; pupil 8; pupil 0; pupil 15",
                    "pupil " + (15 - alone), times(7, "wish # 0"), "run = 2; seat " + bit + " 0 = 0; seat 5 0 = 0");
        }
    }

    private static void bandOfPupil() {
        Document.quote("A pupil's band in a kind is the first one all of whose flags the pupil has; without one the"
                + " pupil is not ELIGIBLE for it.");
        for (int band0 : SOME_BANDS) {
            for (int band1 : SOME_BANDS) {
                for (int band2 : SOME_BANDS) {
                    bandsOfTwo(band0, band1, band2);
                }
            }
        }
        story("school; kind 0 1 1 2 -1; kind 0 1 2 1 -1; pupil 3; wish 0 0; pupil 1; wish 1 0; pupil 2; wish 2 0",
                "run = 2; seat 0 1 = 0; seat 2 1 = 1; seat 1 0 = -1; appeal 1 3; envies 1 2 = true",
                "envies 1 0 = false");
    }

    private static int bandOf(int flags, int... bands) {
        for (int b = 0; b < bands.length && bands[b] >= 0; b++) {
            if ((bands[b] & ~flags) == 0) {
                return b;
            }
        }
        return NOT_ELIGIBLE;
    }

    /** Of two pupils with any flags the one with the lesser band has the one seat. */
    private static void bandsOfTwo(int... bands) {
        String kind = "school; kind 0 1 " + bands[0] + " " + bands[1] + " " + bands[2] + "; ";
        for (int flags0 : SOME_FLAGS) {
            for (int flags1 : SOME_FLAGS) {
                int band0 = bandOf(flags0, bands);
                int band1 = bandOf(flags1, bands);
                boolean any = band0 != NOT_ELIGIBLE || band1 != NOT_ELIGIBLE;
                int holder = band0 <= band1 ? 0 : 1;
                story(kind, "pupil " + flags0 + "; wish 0 0; pupil " + flags1 + "; wish 1 0",
                        "why 0 0 = " + (band0 == NOT_ELIGIBLE ? 2 : 4),
                        "why 1 0 = " + (band1 == NOT_ELIGIBLE ? 2 : 4),
                        "run = " + (any ? 1 : 0) + "; held 0 0 2 = " + (any ? holder : -1));
            }
        }
    }

    private static void listsAndNumbers() {
        Document.quote("PUPILS 0 .. 19 have FLAGS, are LATE or not, and have a LIST of up to 4 schools, all different,"
                + " the best first, and for each school a NUMBER, at first 1000 + the pupil's own.");
        String all = openSchools(6, 1) + everySecondLate();
        story(all, "pupil 0 = state; wish 0 2 = state; wish 19 5 = argument; seat 15 5 = 15; seat 19 5 = 3",
                "run = 4; seat 1 0 = 5; seat 3 0 = 0; seat 5 0 = 4; seat 7 0 = 1; seat 0 0 = -1; seat 9 2 = 4");
        story(all, "draw 19 5 999; draw 17 5 998; draw 0 5 0; run = 4; seat 17 0 = 5; seat 1 0 = 0; seat 19 2 = 4");
        story(all, "draw 19 4 999; draw 17 1 0; draw 0 5 1; draw 18 2 3; run = 4; seat 1 0 = 5; seat 3 0 = 0",
                "seat 19 0 = 4; seat 17 0 = 1; seat 5 0 = -1; seat 0 0 = -1; seat 17 2 = 4; seat 19 2 = 3");
    }

    private static String everySecondLate() {
        StringBuilder all = new StringBuilder();
        for (int p : range(0, 19)) {
            all.append("pupil " + p % 16 + (p % 2 == 0 ? " late; " : "; "));
            for (char school : "5041".toCharArray()) {
                all.append("wish " + p + " " + school + "; ");
            }
        }
        return all.toString();
    }

    // ---- Terms: orders and choices

    private static void standingBefore() {
        Document.quote("FOR A KIND a pupil stands BEFORE another one, both being eligible: one who is not late before a"
                + " late one; of those, the one with the lesser band (0, 1, 2); then the one with the lesser NUMBER at"
                + " the school.");
        for (int rank0 : range(0, 17)) {
            for (int rank1 : range(0, 17)) {
                boolean sameDrawn = rank0 % 3 == rank1 % 3 && rank0 % 3 != 2;
                if (!sameDrawn) {
                    firstOfTwo(rank0, rank1);
                }
            }
        }
    }

    /** The first 9 ranks are not late; in each 3 with band 0, 1, 2; of these the last drew no number. */
    private static String ranked(int pupil, int rank, boolean eligible) {
        int flags = eligible ? flagsOf(rank) : FLAGS_OF_NONE;
        String drawn = rank % 3 == 2 ? "" : "draw " + pupil + " 0 " + (rank % 3 == 0 ? 3 : 7) + "; ";
        return "pupil " + flags + (rank >= 9 ? " late; " : "; ") + "wish " + pupil + " 0; " + drawn;
    }

    private static int flagsOf(int rank) {
        return FLAGS_OF_BAND[rank / 3 % 3];
    }

    /** Who stands before whom shows in the round, in a chain, in envy, in blocking and in held. */
    private static void firstOfTwo(int rank0, int rank1) {
        int first = rank0 <= rank1 ? 0 : 1;
        int second = 1 - first;
        String one = "school; kind 0 1 8 4 2; ";
        String both = ranked(0, rank0, true) + ranked(1, rank1, true);
        String appeals = "appeal 0 " + flagsOf(rank0) + "; appeal 1 " + flagsOf(rank1) + "; ";
        String firstIn = "seat " + first + " 0 = 0; seat " + second + " 0 = -1; envies " + second + " " + first
                + " = false; blocking -1 = 0";
        story(one, both, "run = 1", firstIn);
        story(one, ranked(0, rank0, false), ranked(1, rank1, false), "run = 0", appeals,
                "blocking -1 = 2; stay 0 1; stay 1 1; chain = 1", firstIn);
        story("school; kind 0 2 8 4 2", both, "run = 2; held 0 0 2 = " + second);
        story(one, ranked(0, rank0, second == 0), ranked(1, rank1, second == 1),
                "run = 1; seat " + second + " 0 = 0; blocking -1 = 0", appeals,
                "blocking -1 = 1; blocking 0 = " + 8 * first + "; envies " + first + " " + second + " = true",
                "stay " + first + " 1; chain = 0; answer " + second + " 2; chain = 1", firstIn);
    }

    private static void choosing() {
        Document.quote("A school CHOOSES from a set of pupils: its kinds in their order each take, of those that are"
                + " left and eligible, as many as they have seats, the ones that stand before all others first.");
        choiceOf("012", "1 at 0; 2 at 1; 5 at 1; 4 at 2");
        choiceOf("021", "1 at 0; 4 at 1; 2 at 2; 5 at 2");
        choiceOf("102", "2 at 0; 1 at 0; 5 at 1; 4 at 2");
        choiceOf("120", "2 at 0; 1 at 0; 4 at 1; 5 at 2");
        choiceOf("201", "4 at 0; 1 at 1; 2 at 2; 5 at 2");
        choiceOf("210", "4 at 0; 2 at 1; 1 at 1; 5 at 2");
        sentence("a kind for some takes a late one before a kind for all takes those that are not late");
        story("school; kind 0 1 1 -1 -1; kind 0 1 0 -1 -1; pupil 0; pupil 1 late; pupil 0", times(3, "wish # 0"),
                "run = 2; seat 1 1 = 0; seat 0 1 = 1; seat 2 0 = -1");
        story("school; kind 0 1 0 -1 -1; kind 0 1 1 -1 -1; pupil 0; pupil 1 late; pupil 0", times(3, "wish # 0"),
                "run = 2; seat 0 1 = 0; seat 1 1 = 1; seat 2 0 = -1");
    }

    /** The seven pupils at a school with the three kinds in some order. */
    private static void choiceOf(String order, String chosen) {
        StringBuilder kinds = new StringBuilder("school; ");
        for (char kind : order.toCharArray()) {
            kinds.append("kind 0 ").append(KINDS[kind - '0']).append("; ");
        }
        StringBuilder due = new StringBuilder("run = 4; ");
        for (String one : chosen.split("; ")) {
            String[] words = one.split(" at ");
            due.append("seat " + words[0] + " 1 = " + words[1] + "; ");
        }
        story(kinds.toString(), SEVEN_PUPILS, due.toString(), "blocking -1 = 0; seat 0 0 = -1; seat 3 0 = -1",
                "seat 6 0 = -1");
    }

    // ---- Terms: the round

    private static void theRound() {
        Document.quote("THE ROUND, once: as long as there is a pupil who is held by no school and whose list has a"
                + " school that it has not asked yet, such a pupil ASKS the first of these; the school chooses from"
                + " those it holds and this one, and holds the chosen ones.");
        story("school; kind 0 1 1 -1 -1; kind 0 1 0 -1 -1; school; kind 1 1 0 -1 -1; pupil 1; wish 0 0",
                "pupil 0; wish 1 0; wish 1 1; pupil 1; wish 2 0; draw 2 0 0; pupil 0 late; wish 3 1; wish 3 0",
                "run = 3; seat 2 1 = 0; seat 0 0 = 0; seat 0 1 = 1; seat 1 0 = 1; seat 3 0 = -1; seat 0 2 = 1",
                "seat 1 2 = 2; seat 2 2 = 1; seat 3 2 = 2; look 3 = 6; run = state; seat 1 0 = 1; look 3 = 6");
        sentence("one that is pushed out goes on behind the school that pushed it out");
        story(openSchools(4, 1), pupils(4, "0123"), "draw 3 0 0; draw 2 1 0; draw 1 2 0; run = 4; seat 3 0 = 0",
                "seat 2 0 = 1; seat 1 0 = 2; seat 0 0 = 3; seat 0 2 = 4; seat 1 2 = 3; seat 2 2 = 2; seat 3 2 = 1");
    }

    private static void whoAsksFirst() {
        Document.quote("(The end does not hang on who asks first.)");
        for (int[] order : ordersOf(5)) {
            fivePupils(order);
        }
    }

    /** Two of them are pushed out, one from a kind to the next; a late one asks everywhere. */
    private static void fivePupils(int[] order) {
        String[] flags = {"1", "0", "3 late", "2", "1"};
        String[] lists = {"01", "012", "102", "01", "02"};
        int[] numbers = {7, 5, 0, 9, 3};
        int[] schools = {-1, 1, 2, 0, 0};
        int[] kinds = {-1, 0, 0, 1, 0};
        int[] asked = {2, 2, 3, 1, 1};
        StringBuilder made = new StringBuilder("school; kind 0 1 1 -1 -1; kind 0 1 2 0 -1; ")
                .append("school; kind 1 1 0 -1 -1; school; kind 2 1 0 -1 -1; ");
        StringBuilder due = new StringBuilder("run = 4; look 3 = 9; blocking -1 = 0; ");
        for (int p : range(0, 4)) {
            int who = order[p];
            made.append("pupil ").append(flags[who]).append("; ");
            for (char school : lists[who].toCharArray()) {
                made.append("wish " + p + " " + school + "; draw " + p + " " + school + " " + numbers[who] + "; ");
            }
            due.append("seat " + p + " 0 = " + schools[who] + "; seat " + p + " 1 = " + kinds[who] + "; ");
            due.append("seat " + p + " 2 = " + asked[who] + "; ");
        }
        story(made.toString(), due.toString());
    }

    private static List<int[]> ordersOf(int n) {
        List<int[]> all = new ArrayList<>();
        if (n == 0) {
            all.add(new int[0]);
            return all;
        }
        for (int[] shorter : ordersOf(n - 1)) {
            for (int at : range(0, n - 1)) {
                int[] order = new int[n];
                System.arraycopy(shorter, 0, order, 0, at);
                order[at] = n - 1;
                System.arraycopy(shorter, at, order, at + 1, n - 1 - at);
                all.add(order);
            }
        }
        return all;
    }

    private static void placedWithKind() {
        Document.quote("The pupils who are held are PLACED then, each with the kind that took it.");
        story("school; kind 0 1 1 -1 -1; kind 0 1 0 -1 -1; kind 0 1 0 -1 -1; pupil 0; wish 0 0; pupil 1; wish 1 0",
                "pupil 1; wish 2 0; seat 1 0 = -1; look 4 = 0; why 1 0 = 4; run = 3; seat 1 1 = 0; seat 0 1 = 1",
                "seat 2 1 = 2; look 4 = 3; held 0 0 1 = 1; held 0 1 1 = 1; held 0 2 1 = 1; held 0 2 2 = 2");
    }

    // ---- Terms: behind the round

    private static void acceptOrDecline() {
        Document.quote("BEHIND the round a pupil may ACCEPT or DECLINE (one of the two, once in all, if it is placed"
                + " then, however it came to its seat; declining gives the seat up),");
        for (int what : range(0, 1)) {
            String said = "answer 2 " + what + " = true; seat 2 3 = " + (what + 1) + "; ";
            String never = "answer 2 0 = false; answer 2 1 = false; seat 2 3 = " + (what + 1) + "; ";
            story(TWO_SEATS, "answer 2 0 = false; run; answer 2 0 = false; stay 2 2; answer 1 2; chain = 1", said,
                    never, "over 2 0", never, "seat 2 0 = 0; answer 2 2 = true; seat 2 3 = 3");
            story(TWO_SEATS, "run; over 2 1", said, never, "stay 2 1; answer 0 2; chain = 1", never,
                    "seat 2 0 = 0; seat 2 1 = 0; held 0 0 1 = 1; answer 2 2 = true; held 0 0 1 = 0");
            story(TWO_SEATS, "draw 2 0 5; run; seat 2 0 = 0", said, never, "over 2 1", never, "seat 2 0 = 1");
        }
        sentence("a seat that is given up and moved into, and the one that this leaves");
        story(TWO_SEATS, "run; stay 1 1; stay 2 2; answer 0 0 = true; chain = 0; answer 0 1 = false; answer 1 1 = true",
                "chain = 1; seat 2 0 = 1; seat 1 0 = -1; seat 1 4 = 0; look 4 = 2");
        story(TWO_SEATS, "run; stay 1 1; stay 2 2; answer 0 1 = true; held 0 0 1 = 0; chain = 2; seat 1 0 = 0",
                "seat 2 0 = 1; answer 1 0 = true; answer 2 1 = true; held 1 0 1 = 0; stay 0 2; chain = 1; seat 0 0 = 1",
                "seat 0 3 = 2; answer 0 0 = false; look 4 = 2");
    }

    private static void leaving() {
        Document.quote("LEAVE (it is out: no seat, waits for nothing, for good),");
        story(TWO_SEATS, "run; stay 2 4; answer 2 2 = true; answer 0 1; answer 1 1; chain = 0; appeal 2 15 = true",
                "stay 2 1 = false; over 2 0 = state; answer 2 0 = false; answer 2 2 = false; chain = 0; seat 2 0 = -1",
                "blocking -1 = 4; blocking 2 = 8; blocking 4 = -1; seat 2 3 = 3; seat 2 4 = 0; look 1 = 3; look 4 = 0");
        story(TWO_SEATS, "run; answer 0 0; stay 0 1; answer 0 2 = true; seat 0 0 = -1; seat 0 1 = -1; seat 0 4 = 0",
                "held 0 0 1 = 0; stay 2 1; chain = 1; seat 2 0 = 0; why 0 0 = 4; envies 0 2 = true; answer 2 1",
                "chain = 0; seat 0 0 = -1; seat 0 3 = 3");
        story(TWO_SEATS, "run; over 2 0; answer 2 1; answer 2 2 = true; over 2 0 = state; look 4 = 2; seat 2 3 = 3");
    }

    private static void waiting() {
        Document.quote("or STAY with a place p, 0 .. 4: it WAITS for the schools at the places below p of its list that"
                + " are above its own (all of them, if it has no seat);");
        String last = openSchools(4, 1) + times(3, "pupil 0; wish # #")
                + "pupil 0; wish 3 0; wish 3 1; wish 3 2; wish 3 3; run; stay 3 4; ";
        story(last, "seat 3 0 = 3; chain = 0; answer 2 2; chain = 1; seat 3 0 = 2; answer 0 2; chain = 1; seat 3 0 = 0",
                "answer 1 2; chain = 0; seat 3 4 = 4; over 3 3; chain = 1; seat 3 0 = 0");
        story(last, "answer 0 2; answer 1 2; answer 2 2; stay 3 2; over 3 1; chain = 1; seat 3 0 = 0; seat 3 1 = 0");
        story(last, "answer 1 2; answer 2 2; stay 3 1; chain = 0; stay 3 3; chain = 1; seat 3 0 = 1; stay 3 4",
                "chain = 0");
        story(last, "answer 2 2; over 3 1; chain = 0; answer 3 1; chain = 0; stay 3 2; chain = 0; stay 3 3; chain = 1",
                "seat 3 0 = 2; answer 1 2; stay 3 2; chain = 1; seat 3 0 = 1");
        sentence("places are those of its own list, not the schools' numbers");
        story(openSchools(6, 1), times(6, "pupil 0; wish # #"), "pupil 0; wish 6 5; wish 6 3; wish 6 0; run",
                "answer 0 2",
                "answer 3 2; answer 5 2; stay 6 2; chain = 2; seat 6 0 = 5; over 6 0; stay 6 1; chain = 1",
                "seat 6 0 = 5");
    }

    private static void waitingEndsAndBegins() {
        Document.quote("at first nobody waits; declining and leaving end it, a later STAY takes the place of an earlier"
                + " one (p 0: it waits for nothing; p may be above what its list has), and after declining one may STAY"
                + " again.");
        story(TWO_SEATS, "run; answer 0 2; chain = 0; stay 1 4; stay 2 4; stay 1 0; chain = 1; seat 2 0 = 0; stay 1 4",
                "answer 2 2; seat 2 4 = 0; answer 1 1; seat 1 4 = 0; chain = 0; stay 1 2; chain = 1; seat 1 0 = 0",
                "seat 1 4 = 2; seat 1 3 = 2");
        story(TWO_SEATS, "run; stay 1 4; answer 1 0; seat 1 4 = 4; answer 0 1; chain = 1; seat 1 0 = 0; seat 1 4 = 4",
                "over 1 1; seat 1 4 = 4; chain = 1; seat 1 0 = 0; appeal 1 15; seat 1 4 = 4");
        story(ONE_SEAT, "run; stay 1 4; answer 1 1 = false; seat 1 4 = 4; answer 0 1; chain = 1; answer 1 1 = true",
                "seat 1 4 = 0; stay 0 4; stay 1 4; chain = 1; seat 0 0 = 0; seat 1 0 = -1");
    }

    // ---- Terms: chains

    private static void chains() {
        Document.quote("A CHAIN: as long as there are a school and a kind with fewer holders than seats, and a waiting"
                + " pupil who waits for the school and is eligible for the kind: of the first such school, and its"
                + " first such kind, the pupil who stands before all others such MOVES there: its old seat is free.");
        sentence("one that moved to the first school moves on, and another into the seat that it leaves");
        story(openSchools(3, 1), "pupil 0; wish 0 2; pupil 0; wish 1 0; pupil 0; wish 2 2; wish 2 0; pupil 0; wish 3 0",
                "run = 2; stay 2 2; stay 3 1; chain = 0; answer 0 2; answer 1 2; chain = 3; seat 2 0 = 2",
                "seat 3 0 = 0");
        sentence("a school that had no taker has one when a seat further on is left");
        story(openSchools(3, 1), "pupil 0; wish 0 2; pupil 0; wish 1 2; wish 1 1; pupil 0; wish 2 1; wish 2 0",
                "pupil 0 late; wish 3 0; run = 3; stay 1 1; stay 2 1; stay 3 1; answer 0 1; chain = 3; seat 1 0 = 2",
                "seat 2 0 = 1; seat 3 0 = 0; chain = 0");
        sentence("as many seats as there are free, the first ones first");
        story(openSchools(2, 2), "pupil 0; wish 0 0; pupil 0; wish 1 0", times(4, "pupil 0"),
                "wish 2 1; wish 3 1; wish 4 0; wish 4 1; wish 5 0; draw 5 0 3; draw 4 0 900; run = 4; seat 5 0 = 0",
                "seat 4 0 = 0; stay 0 1; stay 1 1; answer 4 2; chain = 1; seat 0 0 = 0; seat 1 0 = -1; answer 5 1",
                "stay 5 1; chain = 1; seat 5 0 = 0; chain = 0");
    }

    private static void chainsByKinds() {
        sentence("its first such kind, for which one that waits is eligible");
        story("school; kind 0 1 1 -1 -1; kind 0 2 2 0 -1; pupil 1; pupil 2; pupil 2; pupil 0; pupil 3; pupil 1 late",
                times(6, "wish # 0"), "run = 3; stay 3 1; stay 4 1; stay 5 1; chain = 0; answer 0 2; answer 1 2",
                "answer 2 2; chain = 3; seat 4 1 = 0; seat 3 1 = 1; seat 5 1 = 1; held 0 1 2 = 5; held 0 0 2 = 4");
        sentence("one at the school does not move to another of its kinds");
        story("school; kind 0 1 1 -1 -1; kind 0 1 0 -1 -1; pupil 1; pupil 1; pupil 0", times(3, "wish # 0"),
                "run = 2; answer 0 2; stay 1 4; stay 2 4; chain = 0; seat 1 1 = 1; seat 2 0 = -1; blocking 0 = 16");
        sentence("the seat that is left is one of its kind");
        story("school; kind 0 1 0 -1 -1; school; kind 1 1 1 -1 -1; kind 1 1 0 -1 -1; pupil 0; wish 0 0; pupil 1",
                "wish 1 0; wish 1 1; pupil 0; wish 2 1; pupil 0; wish 3 1; pupil 1 late; wish 4 1; run = 3",
                "seat 1 1 = 0",
                "stay 1 1; stay 3 1; stay 4 1; answer 0 1; chain = 2; seat 1 0 = 0; seat 4 0 = 1; seat 4 1 = 0",
                "seat 3 0 = -1; answer 2 2; chain = 1; seat 3 1 = 1");
    }

    private static void flagsOfNow() {
        Document.quote("(Flags as they are now.");
        story("school; kind 0 1 1 -1 -1; kind 0 1 2 -1 -1; pupil 1; pupil 2; pupil 1; pupil 2", times(4, "wish # 0"),
                "run = 2; stay 2 1; stay 3 1; appeal 2 2; appeal 3 1; chain = 0; answer 0 2; answer 1 2; chain = 2",
                "seat 2 1 = 1; seat 3 1 = 0; appeal 2 0; appeal 3 0; chain = 0; seat 2 1 = 1; seat 3 1 = 0");
        story("school; kind 0 2 1 0 -1; pupil 1; pupil 1; pupil 0; pupil 1 late; pupil 1", times(5, "wish # 0"),
                "run = 2; stay 2 1; stay 3 1; stay 4 1; appeal 4 0; answer 0 2; chain = 1; seat 2 0 = 0; appeal 4 1",
                "answer 1 2; chain = 1; seat 4 0 = 0; appeal 3 15; chain = 0; held 0 0 2 = 2");
    }

    private static void aboveNumberInChains() {
        Document.quote("Those who were admitted above number hold no kind's seat.)");
        story(TWO_SEATS, "run; over 0 1; stay 1 1; stay 2 2; chain = 2; seat 1 0 = 0; seat 2 0 = 1; seat 0 0 = 1",
                "look 4 = 3; held 1 0 1 = 1; stay 0 2; answer 1 2; chain = 1; seat 0 0 = 0; seat 0 1 = 0",
                "held 1 0 1 = 1",
                "held 1 0 2 = 2; look 4 = 2");
        story(openSchools(1, 2), pupils(6, "0"), "run = 2; over 2 0; over 3 0; over 4 0; held 0 0 1 = 2; answer 0 1",
                "stay 2 1; stay 5 1; chain = 1; seat 5 1 = 0; seat 2 1 = -1; held 0 0 1 = 2; held 0 0 2 = 5",
                "look 4 = 5");
    }

    // ---- Terms: appeals and admissions above number

    private static void appealBeforeRound() {
        Document.quote("An APPEAL changes a pupil's flags: before the round as if they had been so;");
        String made = "school; kind 0 1 1 2 -1; kind 0 1 4 0 -1; school; kind 1 1 8 1 -1; pupil F; wish 0 0; wish 0 1; "
                + "pupil 5; wish 1 0; wish 1 1; pupil 10; wish 2 1; wish 2 0; ";
        for (int first : range(0, 15)) {
            for (int then : range(0, 15)) {
                Office appealed = made(made.replace("F", String.valueOf(first)) + "appeal 0 " + then);
                Office so = made(made.replace("F", String.valueOf(then)) + "look 0");
                Check.text("flags " + first + ", then " + then, Aftermath.of(appealed, Office.MOST_CALLS),
                        Aftermath.of(so, Office.MOST_CALLS));
            }
        }
    }

    private static void appealBehindRound() {
        Document.quote("behind it, it counts for what is decided from then on, and nobody loses a seat.");
        story("school; kind 0 1 1 -1 -1; kind 0 1 0 -1 -1; pupil 1; pupil 1; pupil 0 late", times(3, "wish # 0"),
                "run = 2; appeal 0 0; seat 0 0 = 0; seat 0 1 = 0; seat 0 5 = 0; held 0 0 2 = 0; why 0 0 = 0",
                "blocking -1 = 0; appeal 1 0; blocking -1 = 0; appeal 2 1; blocking -1 = 1; blocking 0 = 16",
                "envies 2 0 = false; envies 2 1 = false; seat 2 2 = 1; look 3 = 3; look 4 = 2; stay 2 1; chain = 0",
                "answer 0 2; chain = 1; seat 2 1 = 0; appeal 2 0; seat 2 0 = 0; seat 2 1 = 0; held 0 0 2 = 2",
                "chain = 0; look 4 = 2; answer 2 0 = true");
        sentence("a kind's seat is kept, though another kind would take the pupil now");
        story("school; kind 0 2 1 -1 -1; kind 0 1 2 -1 -1; pupil 1; pupil 1; pupil 2 late", times(3, "wish # 0"),
                "run = 3; appeal 0 2; appeal 1 0; seat 0 1 = 0; seat 1 1 = 0; held 0 0 1 = 2; held 0 0 2 = 1",
                "held 0 1 1 = 1; held 0 1 2 = 2; appeal 1 1; held 0 0 2 = 0; envies 0 2 = false; chain = 0");
    }

    private static void aboveNumber() {
        Document.quote("OVER: a pupil is admitted to a school of its list ABOVE NUMBER: it holds no kind there, and a"
                + " seat that it had is free.");
        story(TWO_SEATS, "run; over 2 0 = true; held 0 0 1 = 1; held 0 0 2 = 0; seat 2 1 = -1; look 4 = 3",
                "envies 1 2 = argument; over 0 1 = true; held 0 0 1 = 0; held 1 0 1 = 1; held 1 0 2 = 1; stay 1 1",
                "chain = 1; seat 1 0 = 0; seat 1 1 = 0; held 1 0 1 = 0; look 4 = 3; over 1 1 = true; held 0 0 1 = 0",
                "over 0 0 = true; held 0 0 1 = 0; look 4 = 3; stay 2 4; chain = 1; seat 1 0 = 0; answer 1 2; chain = 0",
                "answer 2 1 = true; chain = 0; stay 2 2; chain = 1; seat 2 0 = 0; seat 2 1 = 0; seat 0 1 = -1");
        sentence("whether or not it is eligible there");
        story("school; kind 0 1 1 -1 -1; school; kind 1 1 0 -1 -1", pupils(2, "01"), "run = 1; over 0 0 = true",
                "seat 0 0 = 0; why 0 0 = 0; held 0 0 1 = 0; held 1 0 1 = 0; over 1 0 = true; look 4 = 2",
                "over 1 1 = true",
                "seat 1 1 = -1; why 1 0 = 2; blocking -1 = 0; appeal 1 1; blocking -1 = 1; blocking 0 = 8");
    }

    // ---- Terms: the rest

    private static void blockingPairs() {
        Document.quote("BLOCKING behind the round: a pupil who has not left and a school of its list above its own (or"
                + " any, without a seat) that would choose it from those who hold a kind's seat there and it.");
        story("school; kind 0 1 1 -1 -1; kind 0 2 2 0 -1; school; kind 1 1 0 -1 -1; pupil 1; wish 0 0; pupil 2",
                "wish 1 0",
                "pupil 0; wish 2 0; pupil 3; wish 3 1; wish 3 0; pupil 0 late; wish 4 0; wish 4 1; pupil 0; wish 5 1",
                "blocking -1 = -1; run = 4; blocking -1 = 0; over 3 0; blocking -1 = 3; blocking 0 = 25",
                "blocking 1 = 33",
                "blocking 2 = 41; answer 4 2; blocking -1 = 2; blocking 1 = 41; stay 5 1; chain = 1; blocking -1 = 1",
                "blocking 0 = 25; envies 3 5 = true; answer 3 1; blocking -1 = 2; blocking 0 = 25; blocking 1 = 24",
                "blocking 2 = -1; appeal 3 0; blocking -1 = 1; blocking 0 = 25; answer 3 2; blocking -1 = 0");
        sentence("those above number are not among whom it would choose from");
        story("school; kind 0 1 1 -1 -1; kind 0 1 0 -1 -1; pupil 1; pupil 1; pupil 1; pupil 0", times(4, "wish # 0"),
                "run = 2; over 2 0; blocking -1 = 0; answer 0 2; blocking -1 = 1; blocking 0 = 24; answer 2 1",
                "blocking -1 = 2; blocking 0 = 16; blocking 1 = 24; stay 2 1; chain = 1; blocking -1 = 0");
    }

    private static void refusedCalls() {
        Document.quote("What throws or is refused changes nothing.");
        story(TWO_SEATS, "kind 0 7 0 0 0 = argument; kind 2 1 0 0 0 = argument; kind 0 1 -1 -1 16 = argument",
                "pupil 16 = argument; wish 0 0 = argument; wish 0 2 = argument; draw 2 0 1000 = false",
                "draw 3 0 1 = false",
                "answer 0 0 = false; stay 0 1 = false; chain = state; appeal 0 16 = false; over 0 1 = state",
                "envies 0 1 = argument; run = 2; run = state; school = state; kind 0 1 0 -1 -1 = state",
                "pupil 0 = state",
                "wish 0 0 = argument; draw 2 0 1 = false; answer 2 0 = false; answer 2 1 = false; answer 0 3 = false",
                "stay 0 5 = false; stay 3 1 = false; appeal 0 -1 = false; over 0 0 = argument; envies 0 2 = argument",
                "seat 0 0 = 0; seat 0 3 = 0; seat 0 4 = 0; seat 0 5 = 0; seat 1 0 = 1; seat 2 0 = -1; look 3 = 5",
                "answer 0 2; answer 0 2 = false; over 0 1 = state; stay 0 1 = false; stay 2 1; chain = 1",
                "seat 2 0 = 0");
    }

    private static void noneConstant() {
        Document.quote("The constants: `NONE = -1`: There is none.");
        Check.is("NONE", SeatOffice.NONE, -1);
        SeatOffice office = new SeatOffice();
        office.school();
        office.pupil(0, false);
        Check.is("seat(0, 0)", office.seat(0, 0), SeatOffice.NONE);
        Check.is("held(0, 0, 0)", office.held(0, 0, 0), SeatOffice.NONE);
        Check.is("blocking(0)", office.blocking(0), SeatOffice.NONE);
        Check.is("why(1, 0)", office.why(1, 0), SeatOffice.NONE);
        Check.is("look(5)", office.look(5), SeatOffice.NONE);
    }
}
