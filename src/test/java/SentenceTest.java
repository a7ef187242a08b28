import java.util.List;

/**
 * The document's promises sentence by sentence: runs of calls in which the things that a sentence
 * speaks of meet. (What stands before the promises is TermsTest's and FaceTest's; from what is not
 * promised nothing is due.)
 */
public final class SentenceTest extends Story {
    private static final List<String> HEADINGS = List.of("What it is", "The public face", "Terms",
            "Promise 1: A new object", "Promise 2: school", "Promise 3: kind", "Promise 4: pupil", "Promise 5: wish",
            "Promise 6: draw", "Promise 7: run", "Promise 8: answer", "Promise 9: stay", "Promise 10: chain",
            "Promise 11: appeal", "Promise 12: over", "Promise 13: seat", "Promise 14: held", "Promise 15: blocking",
            "Promise 16: envies", "Promise 17: why", "Promise 18: look", "Not promised");

    public static void main(String[] args) {
        Check.text("the document's sections", Document.headings().toString(), HEADINGS.toString());
        newObject();
        school();
        kind();
        kindRefused();
        pupil();
        wish();
        draw();
        run();
        answer();
        stay();
        chain();
        appeal();
        over();
        seat();
        held();
        blocking();
        envies();
        why();
        look();
        Check.end();
    }

    /** A call with each of 0, 1, 2 .. for #, and the answers that are due. */
    private static String all(String call, String answers) {
        StringBuilder rows = new StringBuilder();
        String[] due = answers.split(" ");
        for (int i = 0; i < due.length; i++) {
            rows.append(call.replace("#", String.valueOf(i))).append(" = ").append(due[i]).append("; ");
        }
        return rows.toString();
    }

    private static void newObject() {
        Document.quote("No schools, no pupils.");
        story(all("look #", "0 0 0 0 0"), "seat 0 0 = -1; held 0 0 0 = -1; why 0 0 = -1; school = 0; pupil 0 = 0");
        story("run = 0", all("look #", "0 0 1 0 0"), "blocking -1 = 0; chain = 0; school = state; pupil 0 = state");
        Document.wholeSection("Promise 1: A new object");
    }

    private static void school() {
        Document.quote("A new school without kinds: its number.");
        story("school = 0; kind 0 1 0 -1 -1 = 0; school = 1; held 1 0 0 = -1; kind 0 1 0 -1 -1 = 1",
                "kind 1 2 0 -1 -1 = 0",
                "school = 2; held 2 0 0 = -1; pupil 15; wish 0 2; wish 0 1; why 0 2 = 2; run = 1; seat 0 0 = 1",
                "seat 0 2 = 2; held 1 0 1 = 1; held 0 1 0 = 1");
        Document.quote("IllegalStateException behind the round, or if there are 6.");
        story(schools(6), "school = state; run = 0; school = state; look 0 = 6");
        story("school; run; school = state; look 0 = 1; chain; school = state; held 1 0 0 = -1");
        Document.wholeSection("Promise 2: school");
    }

    private static void kind() {
        Document.quote("One more kind for a school, behind the others: its number; a band below 0 is none, nor are"
                + " those behind it (without any nobody is eligible; all three are looked at).");
        story("school; school; kind 0 1 0 -1 -1 = 0; kind 1 1 1 -1 -1 = 0; kind 0 1 1 -1 -1 = 1; kind 1 1 0 -1 -1 = 1",
                "pupil 1; wish 0 0; pupil 1; wish 1 0; pupil 1; wish 2 1; pupil 1; wish 3 1; run = 4; seat 0 1 = 0",
                "seat 1 1 = 1; seat 2 1 = 0; seat 3 1 = 1; answer 0 2; answer 2 2; appeal 1 0; held 0 1 2 = 1",
                "held 1 1 2 = 3");
        story("school; kind 0 1 -1 -1 16 = argument; kind 0 1 -9 16 0 = argument; kind 0 1 4 -1 0 = 0",
                "kind 0 2 -7 0 0 = 1",
                "kind 0 1 2 0 -1 = 2; pupil 2; wish 0 0; pupil 4; wish 1 0; pupil 0; wish 2 0; run = 2; seat 1 1 = 0",
                "seat 0 1 = 2; held 0 1 1 = 0; why 2 0 = 4; answer 1 2; stay 2 1; chain = 0; appeal 2 4; chain = 1",
                "seat 2 1 = 0");
    }

    private static void kindRefused() {
        Document.quote("IllegalArgumentException if there is no such school, seats is not 0 .. 6, or a band above 15;"
                + " IllegalStateException behind the round, or if it has 3.");
        story("school; kind 1 7 16 16 16 = argument; kind 0 -1 0 0 0 = argument; kind 0 6 15 15 15 = 0",
                "kind 0 0 0 0 0 = 1",
                "kind 0 1 0 0 0 = 2; kind 0 1 0 0 0 = state; kind 0 7 0 0 0 = argument; kind 0 1 0 0 16 = argument",
                "kind 0 1 16 0 0 = argument; kind 0 1 0 16 0 = argument",
                "kind 1 1 0 0 0 = argument; run; kind 0 1 0 0 0 = state; kind 0 1 -1 -1 16 = argument",
                all("held 0 # 0", "6 0 1 -1"));
        story("school; run; kind 0 1 0 0 0 = state; kind 0 -1 0 0 0 = argument; kind -1 1 0 0 0 = argument",
                "held 0 0 0 = -1");
        Document.wholeSection("Promise 3: kind");
    }

    private static void pupil() {
        Document.quote("A new pupil with an empty list: its number.");
        story("school; kind 0 2 1 0 -1; pupil 0 late = 0; wish 0 0 = 1; pupil 1 = 1; why 1 0 = 1; why 0 0 = 4",
                "wish 1 0 = 1",
                "pupil 0 = 2; run = 2; seat 2 2 = 0; seat 0 5 = 0; seat 1 5 = 1; held 0 0 2 = 0; why 2 0 = 1");
        Document.quote("IllegalArgumentException if flags is not 0 .. 15; IllegalStateException behind the round, or if"
                + " there are 20.");
        story(times(19, "pupil 15"), "pupil 16 = argument; pupil -1 late = argument; look 1 = 19; pupil 15 late = 19",
                "pupil 16 = argument; pupil 0 = state; run; pupil 0 = state; pupil 16 = argument; seat 19 5 = 15",
                "look 1 = 20; seat 20 5 = -1");
        Document.wholeSection("Promise 4: pupil");
    }

    private static void wish() {
        Document.quote("A school goes to the end of a pupil's list: how many it has.");
        story(openSchools(6, 1), "pupil 0; pupil 0; wish 1 3 = 1; wish 0 3 = 1; wish 0 5 = 2; wish 1 0 = 2",
                "wish 0 1 = 3",
                "wish 1 5 = 3; draw 1 3 0; draw 0 5 9; draw 1 5 1; run = 2; seat 1 0 = 3; seat 0 0 = 5; seat 0 2 = 2",
                "answer 0 1; blocking -1 = 2; blocking 0 = 5; blocking 1 = 1; stay 0 3; chain = 2; seat 0 0 = 5");
        Document.quote("IllegalArgumentException if there is no such pupil or school, or it is there;"
                + " IllegalStateException behind the round, or if it has 4.");
        story(schools(6), "pupil 0", times(4, "wish 0 #"), "wish 0 3 = argument; wish 0 4 = state; wish 0 6 = argument",
                "wish 1 4 = argument; pupil 0; wish 1 4 = 1; run; wish 0 4 = state; wish 0 3 = argument",
                "wish 1 4 = argument",
                "wish 1 0 = state; wish 2 0 = argument; wish 1 6 = argument; seat 0 2 = 4; seat 1 2 = 1");
        Document.wholeSection("Promise 5: wish");
    }

    private static void draw() {
        Document.quote("The pupil's NUMBER at a school becomes n: true; false if there is no such pupil or school, n is"
                + " not 0 .. 999, another pupil has it there (its own again is true), or the round was.");
        story(openSchools(2, 1), pupils(3, "01"), "draw 0 0 5 = true; draw 1 0 5 = false; draw 1 1 5 = true",
                "draw 0 0 5 = true; draw 0 0 7 = true; draw 1 0 5 = true; draw 2 0 1000 = false; draw 2 0 -1 = false",
                "draw 2 0 0 = true; draw 2 2 0 = false; draw 3 0 0 = false; run = 2; seat 2 0 = 0; seat 1 0 = 1",
                "seat 0 0 = -1; draw 0 0 7 = false; draw 0 0 8 = false; stay 0 2; answer 2 2; answer 1 1; stay 1 2",
                "chain = 2; seat 1 0 = 0; seat 0 0 = 1");
        story(openSchools(1, 1), pupils(20, "0"), "draw 19 0 4 = true; draw 0 0 4 = false; draw 18 0 4 = false",
                "draw 18 0 3 = true; draw 19 0 3 = false; run = 1; seat 18 0 = 0; answer 18 2; blocking -1 = 19");
        Document.quote("(The school need not be in its list.)");
        story(openSchools(2, 1), "pupil 0; pupil 0; draw 1 1 3 = true; draw 0 1 3 = false; wish 0 1; wish 1 1; run = 1",
                "seat 1 0 = 1; envies 0 1 = false");
        Document.wholeSection("Promise 6: draw");
    }

    private static void run() {
        Document.quote("THE ROUND: how many pupils are placed.");
        for (int n : range(0, 20)) {
            int placed = Math.min(n, 13);
            story("school; school; kind 0 6 0 -1 -1; kind 0 2 0 -1 -1; kind 1 5 0 -1 -1", pupils(n, "01"),
                    "look 4 = 0; run = " + placed + "; look 4 = " + placed + "; blocking -1 = 0",
                    "held 0 0 1 = " + Math.min(n, 6) + "; held 1 0 1 = " + Math.max(0, placed - 8),
                    "look 3 = " + (n + Math.max(0, n - 8)));
        }
        Document.quote("IllegalStateException if it was.");
        story(TWO_SEATS, "run = 2; run = state; answer 0 2; appeal 2 5; run = state; stay 2 2; chain = 1; run = state",
                "seat 0 0 = -1; seat 2 0 = 0; look 3 = 5; over 1 0; run = state; look 4 = 2");
        Document.wholeSection("Promise 7: run");
    }

    private static void answer() {
        Document.quote("what 0: ACCEPT, 1: DECLINE, 2: LEAVE: true; false if there is no such pupil or what, the round"
                + " was not yet, it has left, or cannot do so.");
        answers("", "false false false");
        answers("draw 2 0 0; run; ", "true true true");
        answers("run; ", "false false true");
        answers("run; over 2 1; ", "true true true");
        answers("run; stay 2 1; answer 0 2; chain; ", "true true true");
        answers("run; over 2 1; answer 2 0; ", "false false true");
        answers("run; over 2 1; answer 2 0; over 2 0; ", "false false true");
        answers("run; over 2 1; answer 2 1; ", "false false true");
        answers("run; over 2 1; answer 2 1; over 2 0; ", "false false true");
        answers("run; answer 2 2; ", "false false false");
        answers("run; over 2 1; answer 2 1; answer 2 2; ", "false false false");
        Document.wholeSection("Promise 8: answer");
    }

    /** What pupil 2 may answer then; each on an office of its own. */
    private static void answers(String then, String due) {
        String[] may = due.split(" ");
        for (int what : range(0, 2)) {
            story(TWO_SEATS, then, "answer 2 " + what + " = " + may[what]);
        }
        story(TWO_SEATS, then, "answer 2 -1 = false; answer 2 3 = false; answer 3 0 = false; answer -1 2 = false");
    }

    private static void stay() {
        Document.quote("STAY: true; false if there is no such pupil, p is not 0 .. 4, the round was not yet, or it has"
                + " left.");
        String never = "false false false false false false";
        String may = "true true true true true false";
        story(TWO_SEATS, all("stay 2 #", never), "seat 2 4 = 0; run", all("stay 2 #", may), "seat 2 4 = 4",
                "stay 2 -1 = false");
        story(TWO_SEATS, "run; answer 0 0", all("stay 0 #", may), "seat 0 4 = 4; answer 1 1", all("stay 1 #", may),
                "over 2 1", all("stay 2 #", may), "seat 2 4 = 4; answer 2 2", all("stay 2 #", never), "seat 2 4 = 0");
        story(TWO_SEATS, "run", all("stay 3 #", never), all("stay -1 #", never), "chain = 0");
        Document.wholeSection("Promise 9: stay");
    }

    private static void chain() {
        Document.quote("A CHAIN: how many moves.");
        for (int n : range(1, 6)) {
            story(openSchools(n, 1), "pupil 0; wish 0 0", eachBehindTheOther(n), "run = " + n + "; chain = 0",
                    times(n + 1, "stay # 1"), "answer 0 2; chain = " + n + "; look 4 = " + n + "; chain = 0",
                    "seat " + n + " 0 = " + (n - 1) + "; seat 1 0 = 0");
        }
        Document.quote("IllegalStateException before the round.");
        story(TWO_SEATS, "chain = state; stay 2 1 = false; chain = state; run = 2; chain = 0; run = state; chain = 0");
        Document.wholeSection("Promise 10: chain");
    }

    /** Pupils 1 .. n, each of whom would rather have the seat of the one before it. */
    private static String eachBehindTheOther(int n) {
        StringBuilder rows = new StringBuilder();
        for (int p : range(1, n)) {
            rows.append("pupil 0; wish " + p + " " + (p - 1) + "; ");
            if (p < n) {
                rows.append("wish " + p + " " + p + "; ");
            }
        }
        return rows.toString();
    }

    private static void appeal() {
        Document.quote("An APPEAL (at any time, of one that has left, too): true; false if there is no such pupil, or"
                + " flags is not 0 .. 15.");
        story("school; kind 0 1 8 1 -1", pupils(2, "0"), "appeal 0 9 = true; appeal 1 1 = true; appeal 2 1 = false",
                "appeal 0 16 = false; seat 0 5 = 9; run = 1; seat 0 0 = 0; appeal 0 1 = true; appeal 1 8 = true",
                "envies 1 0 = true; answer 0 1; appeal 0 0 = true; stay 0 1; chain = 0; appeal 0 1 = true; stay 1 1",
                "chain = 1; seat 1 0 = 0; answer 0 2; appeal 0 8 = true; envies 0 1 = true; appeal 0 -1 = false",
                "envies 0 1 = true; appeal 0 15 = true; seat 0 5 = 15; seat 0 3 = 3; blocking -1 = 0",
                "appeal -1 0 = false",
                "answer 1 2; chain = 0; seat 0 0 = -1");
        Document.wholeSection("Promise 11: appeal");
    }

    private static void over() {
        Document.quote("OVER: true.");
        story(TWO_SEATS, "run; over 2 1 = true; over 2 0 = true; over 0 1 = true; over 1 0 = true; look 4 = 3",
                "held 0 0 1 = 0; held 1 0 1 = 0", all("seat # 0", "1 0 0"), all("seat # 1", "-1 -1 -1"));
        Document.quote("IllegalArgumentException if there is no such pupil, the school is not in its list, or it has a"
                + " seat there (above number, too); IllegalStateException before the round, or if the pupil has left.");
        story(openSchools(3, 1), pupils(3, "01"), "over 0 0 = state; over 3 0 = argument; over 0 2 = argument; run = 2",
                "over 3 0 = argument; over 0 2 = argument; over 0 0 = argument; over 0 1 = true; over 0 1 = argument",
                "over 0 0 = true; over 0 0 = argument; answer 0 2; over 0 0 = state; over 0 1 = state",
                "over 0 2 = argument",
                "over 2 -1 = argument; over 2 3 = argument; over -1 0 = argument; stay 2 1; chain = 1",
                "over 2 0 = argument",
                "seat 2 1 = 0; over 2 1 = true; held 0 0 1 = 0");
        Document.wholeSection("Promise 12: over");
    }

    private static void seat() {
        Document.quote("Of a pupil: w = 0: the school where it is placed, NONE (before the round, too), 1: the kind,"
                + " NONE (also above number), 2: how many schools it asked in the round, 3: 0 no answer, 1 ACCEPTED,"
                + " 2 DECLINED (the latest answer, whatever seat came since), 3 LEFT, 4: up to which place it STAYS,"
                + " 0 if it does not, 5: its flags.");
        String made = "school; kind 0 1 1 0 -1; kind 0 1 8 -1 -1; school; kind 1 1 0 -1 -1; pupil 0; wish 0 0; "
                + "pupil 6; wish 1 0; wish 1 1; ";
        story(made, all("seat 1 #", "-1 -1 0 0 0 6"), "run = 2", all("seat 1 #", "1 0 2 0 0 6"), "stay 1 1",
                all("seat 1 #", "1 0 2 0 1 6"), "answer 1 0", all("seat 1 #", "1 0 2 1 1 6"), "over 1 0",
                all("seat 1 #", "0 -1 2 1 1 6"), "appeal 1 8; over 1 1", all("seat 1 #", "1 -1 2 1 1 8"), "chain = 1",
                all("seat 1 #", "0 1 2 1 1 8"), "answer 1 2", all("seat 1 #", "-1 -1 2 3 0 8"), "appeal 1 3",
                all("seat 1 #", "-1 -1 2 3 0 3"));
        story(made, "run; stay 1 4; answer 1 1", all("seat 1 #", "-1 -1 2 2 0 6"), "stay 1 3; chain = 1",
                all("seat 1 #", "1 0 2 2 3 6"), "over 1 0", all("seat 1 #", "0 -1 2 2 3 6"),
                all("seat 0 #", "0 0 1 0 0 0"), "answer 1 2", all("seat 1 #", "-1 -1 2 3 0 6"));
        Document.quote("NONE if there is none such or no such w.");
        story(made, "seat 1 6 = -1; seat 2 5 = -1; run; seat 1 -1 = -1; seat 2 0 = -1; seat -1 2 = -1; seat 1 6 = -1");
        Document.wholeSection("Promise 13: seat");
    }

    private static void held() {
        Document.quote("Of a kind: w = 0: its seats, 1: how many hold one, 2: of those who hold one the pupil who"
                + " stands behind all others by what is now (one that is not eligible any more behind all that are, of"
                + " several such the pupil with the greatest number of its own), NONE if none does.");
        story("school; kind 0 4 8 4 2; kind 0 1 -1 -1 -1; pupil 8 late; pupil 2; pupil 4; pupil 8",
                times(4, "wish # 0"), "draw 0 0 0; draw 3 0 999; draw 1 0 1", all("held 0 0 #", "4 0 -1"),
                "run = 4", all("held 0 0 #", "4 4 0"),
                "appeal 3 1; held 0 0 2 = 3; appeal 1 1; held 0 0 2 = 3; appeal 3 2; held 0 0 2 = 1; appeal 1 8",
                "held 0 0 2 = 0; answer 0 2; held 0 0 2 = 3; appeal 2 2; held 0 0 2 = 2", all("held 0 0 #", "4 3 2"),
                all("held 0 1 #", "1 0 -1"), "answer 2 1; answer 3 1", all("held 0 0 #", "4 1 1"), "over 3 0",
                        "appeal 3 0",
                all("held 0 0 #", "4 1 1"), "answer 1 2", all("held 0 0 #", "4 0 -1"));
        sentence("for one kind this one is the last, for another that one");
        story("school; kind 0 2 1 2 -1; school; kind 1 2 2 1 -1; kind 1 2 1 2 -1; pupil 1; pupil 2; pupil 1; pupil 2",
                "wish 0 1; wish 1 1; wish 2 1; wish 3 1; draw 3 1 0; draw 2 1 1; draw 0 1 2; draw 1 0 5; run = 4",
                "held 1 0 2 = 1; held 1 1 2 = 0; appeal 1 3; held 1 0 2 = 1; appeal 3 1; held 1 0 2 = 3",
                "appeal 2 2; held 1 1 2 = 2; appeal 0 2; held 1 1 2 = 0; held 0 0 2 = -1");
        Document.quote("NONE if there is none such or no such w.");
        story(TWO_SEATS, all("held 0 1 #", "-1 -1 -1"), all("held 2 0 #", "-1 -1 -1"), "run; held 0 0 3 = -1",
                "held 0 0 -1 = -1; held 0 -1 1 = -1; held -1 0 1 = -1; held 2 0 1 = -1; held 0 1 1 = -1");
        Document.wholeSection("Promise 14: held");
    }

    private static void blocking() {
        Document.quote("Blocking pair i, in the order of pupils, and for each in that of its list: 8 * pupil + school;"
                + " how many there are, if i is -1.");
        story(openSchools(4, 1), pupils(1, "3"), "pupil 0; wish 1 3; wish 1 1; wish 1 0; pupil 0; wish 2 1; wish 2 2",
                "pupil 0; wish 3 2; wish 3 3; run = 3; blocking -1 = 0; answer 0 1; blocking -1 = 3",
                all("blocking #", "3 11 27 -1"), "answer 1 1; blocking -1 = 6", all("blocking #", "3 11 9 8 17 27 -1"),
                "over 1 0; blocking -1 = 5", all("blocking #", "3 11 9 17 27 -1"), "stay 2 1; chain = 1; seat 2 0 = 1",
                "blocking -1 = 5", all("blocking #", "3 11 9 26 27 -1"));
        Document.quote("NONE if there is none such, or before the round.");
        story(ONE_SEAT, "blocking -1 = -1; blocking 0 = -1; run; blocking 0 = -1; answer 0 2; blocking 0 = 8",
                "blocking 1 = -1",
                "blocking -2 = -1; blocking 8 = -1; blocking -1 = 1");
        Document.wholeSection("Promise 15: blocking");
    }

    private static void envies() {
        Document.quote("Whether pupil a would rather have b's seat (it is in a's list, above a's own, if a has one;"
                + " also if a has left) and, for the kind, stands before b, both being eligible.");
        String made = "school; kind 0 1 1 2 -1; kind 0 1 2 1 -1; school; kind 1 1 0 -1 -1; pupil 2; wish 0 0; pupil 2; "
                + "wish 1 0; pupil 0; wish 2 0; wish 2 1; draw 2 0 0; ";
        story(made, "run = 3; seat 2 0 = 1", envy("false false"), "appeal 2 1", envy("true false"), "appeal 2 2",
                envy("true true"), "appeal 0 8", envy("false true"), "appeal 0 1", envy("false true"), "appeal 1 1",
                envy("false true"), "over 2 0", envy("false false"), "answer 2 1", envy("false true"), "answer 2 2",
                envy("false true"), "appeal 2 4", envy("false false"));
        story(made.replace("pupil 0;", "pupil 0 late;"), "run = 3",
                "appeal 2 3", envy("false false"), "envies 0 2 = false");
        Document.quote("IllegalArgumentException if there is no such pupil, or b holds no kind's seat.");
        story(made, "envies 2 0 = argument; run; envies 2 0 = false; envies 3 0 = argument; envies 0 3 = argument",
                "envies -1 -1 = argument; envies 0 -1 = argument; envies 0 20 = argument; over 0 0 = argument",
                "answer 0 1; envies 2 0 = argument; over 0 0",
                "envies 2 0 = argument; envies 0 0 = argument; envies 0 1 = false; answer 0 2; envies 0 1 = true");
        Document.wholeSection("Promise 16: envies");
    }

    /** Whether pupil 2 envies pupils 0 and 1. */
    private static String envy(String due) {
        return all("envies 2 #", due);
    }

    private static void why() {
        Document.quote("Why a pupil is not at a school: 0 it is, 1 the school is not in its list, 2 it is eligible for"
                + " no kind, 3 it is placed at one that is higher in its list, 4 otherwise (before the round nobody is"
                + " placed; above number counts as placed).");
        story(openSchools(2, 1), "school; kind 2 1 8 -1 -1; school; kind 3 1 0 -1 -1; school; kind 4 1 0 -1 -1",
                "pupil 0; wish 0 0", "pupil 0; wish 1 0; wish 1 1; wish 1 2; wish 1 3", all("why 1 #", "4 4 2 4 1"),
                "run = 2", all("why 1 #", "4 0 2 3 1"), "appeal 1 8", all("why 1 #", "4 0 3 3 1"), "over 1 2",
                all("why 1 #", "4 4 0 3 1"), "appeal 1 0", all("why 1 #", "4 4 0 3 1"), "over 1 3",
                all("why 1 #", "4 4 2 0 1"), "over 1 0", all("why 1 #", "0 3 2 3 1"), "answer 1 1",
                all("why 1 #", "4 4 2 4 1"), "stay 1 2; chain = 1", all("why 1 #", "4 0 2 3 1"), "answer 1 2",
                all("why 1 #", "4 4 2 4 1"), all("why 0 #", "0 1 1 1 1 -1"));
        sentence("a kind without seats is one, too, for which one is eligible");
        story("school; kind 0 0 1 -1 -1; kind 0 1 2 -1 -1; pupil 1; wish 0 0; why 0 0 = 4; run = 0; why 0 0 = 4",
                "appeal 0 4; why 0 0 = 2; appeal 0 2; why 0 0 = 4; stay 0 1; chain = 1; why 0 0 = 0; appeal 0 4",
                "why 0 0 = 0; answer 0 1; why 0 0 = 2");
        Document.quote("NONE if there is no such pupil or school.");
        story(TWO_SEATS, "why 3 0 = -1; why 0 2 = -1; run; why -1 0 = -1; why 0 -1 = -1; why 3 3 = -1; why 0 0 = 0");
        Document.wholeSection("Promise 17: why");
    }

    private static void look() {
        Document.quote("which 0: schools, 1: pupils, 2: 1 if the round was, else 0, 3: how many asked in the round in"
                + " all, 4: how many are placed (also above number).");
        story(TWO_SEATS, all("look #", "2 3 0 0 0"), "run", all("look #", "2 3 1 5 2"), "over 2 0",
                all("look #", "2 3 1 5 3"), "answer 0 2", all("look #", "2 3 1 5 2"), "stay 1 1; chain = 1",
                all("look #", "2 3 1 5 2"), "answer 1 1", all("look #", "2 3 1 5 1"), "over 1 1; over 2 1",
                all("look #", "2 3 1 5 2"), "answer 2 2; answer 1 2", all("look #", "2 3 1 5 0"));
        Document.quote("NONE for any other which.");
        story(TWO_SEATS, "look -1 = -1; look 5 = -1; run; look 5 = -1; look -1 = -1; look 6 = -1");
        Document.wholeSection("Promise 18: look");
    }
}
