/**
 * Places pupils at schools whose seats are of several kinds: a round first, then answers, chains,
 * appeals and admissions above number. The numbered promises it keeps stand in ../shared/DOC.md.
 */
public final class SeatOffice {
    public static final int NONE = -1;

    private static final int MAX_SCHOOLS = 6;
    private static final int MAX_KINDS = 3;
    private static final int MAX_SEATS = 6;
    private static final int MAX_BANDS = 3;
    private static final int MAX_PUPILS = 20;
    private static final int MAX_LIST = 4;
    private static final int MAX_FLAGS = 15;
    private static final int MAX_DRAWN = 999;
    private static final int FIRST_NUMBER = 1000;

    private static final int ACCEPT = 0;
    private static final int DECLINE = 1;
    private static final int LEAVE = 2;

    private static final int NO_ANSWER = 0;
    private static final int ACCEPTED = 1;
    private static final int DECLINED = 2;
    private static final int LEFT = 3;

    /** More than any NUMBER, so that a number never outweighs a band. */
    private static final int NUMBER_SPAN = 2000;
    /** More than the standing of anybody eligible. */
    private static final int NOT_ELIGIBLE = 100000;
    /** In a round each pupil asks a place of its list once; in a chain each move goes up its list. */
    private static final int MAX_STEPS = MAX_PUPILS * MAX_LIST;
    private static final int HOW_MANY = -1;

    private final School[] schools;
    private final Pupil[] pupils;
    private int schoolCount;
    private int pupilCount;
    private boolean roundWas;

    /** The pupils among whom a school is choosing and whom no kind has taken yet. */
    private final int[] pool;
    private int poolSize;
    /** For each pupil the kind that took it in the latest choice, or NONE. */
    private final int[] taker;

    public SeatOffice() {
        schools = new School[MAX_SCHOOLS];
        for (int s = 0; s < MAX_SCHOOLS; s++) {
            schools[s] = new School();
        }
        pupils = new Pupil[MAX_PUPILS];
        for (int p = 0; p < MAX_PUPILS; p++) {
            pupils[p] = new Pupil(p);
        }
        pool = new int[MAX_PUPILS];
        taker = new int[MAX_PUPILS];
    }

    public int school() throws IllegalStateException {
        if (roundWas || schoolCount >= MAX_SCHOOLS) {
            throw new IllegalStateException();
        }
        schoolCount++;
        return schoolCount - 1;
    }

    public int kind(int school, int seats, int band0, int band1, int band2)
            throws IllegalArgumentException, IllegalStateException {
        if (!isSchool(school) || seats < 0 || seats > MAX_SEATS) {
            throw new IllegalArgumentException();
        }
        if (band0 > MAX_FLAGS || band1 > MAX_FLAGS || band2 > MAX_FLAGS) {
            throw new IllegalArgumentException();
        }
        School to = schools[school];
        if (roundWas || to.kindCount >= MAX_KINDS) {
            throw new IllegalStateException();
        }
        Kind added = to.kinds[to.kindCount];
        added.seats = seats;
        added.setBands(band0, band1, band2);
        to.kindCount++;
        return to.kindCount - 1;
    }

    public int pupil(int flags, boolean late) throws IllegalArgumentException, IllegalStateException {
        if (!areFlags(flags)) {
            throw new IllegalArgumentException();
        }
        if (roundWas || pupilCount >= MAX_PUPILS) {
            throw new IllegalStateException();
        }
        Pupil added = pupils[pupilCount];
        added.flags = flags;
        added.late = late;
        pupilCount++;
        return pupilCount - 1;
    }

    public int wish(int pupil, int school) throws IllegalArgumentException, IllegalStateException {
        if (!isPupil(pupil) || !isSchool(school) || pupils[pupil].placeOf(school) != NONE) {
            throw new IllegalArgumentException();
        }
        Pupil who = pupils[pupil];
        if (roundWas || who.listed >= MAX_LIST) {
            throw new IllegalStateException();
        }
        who.list[who.listed] = school;
        who.listed++;
        return who.listed;
    }

    public boolean draw(int pupil, int school, int n) {
        if (!isPupil(pupil) || !isSchool(school) || n < 0 || n > MAX_DRAWN || roundWas) {
            return false;
        }
        for (int p = 0; p < pupilCount; p++) {
            if (p != pupil && pupils[p].numbers[school] == n) {
                return false;
            }
        }
        pupils[pupil].numbers[school] = n;
        return true;
    }

    public int run() throws IllegalStateException {
        if (roundWas) {
            throw new IllegalStateException();
        }
        for (int asks = 0; asks < MAX_STEPS; asks++) {
            int asker = nextAsker();
            if (asker == NONE) {
                break;
            }
            askNext(asker);
        }
        roundWas = true;
        return countPlaced();
    }

    public boolean answer(int pupil, int what) {
        if (!isPupil(pupil) || !roundWas || pupils[pupil].hasLeft()) {
            return false;
        }
        Pupil who = pupils[pupil];
        switch (what) {
            case ACCEPT:
                return who.accept();
            case DECLINE:
                return who.decline();
            case LEAVE:
                who.leave();
                return true;
            default:
                return false;
        }
    }

    public boolean stay(int pupil, int p) {
        if (!isPupil(pupil) || p < 0 || p > MAX_LIST || !roundWas || pupils[pupil].hasLeft()) {
            return false;
        }
        pupils[pupil].stays = p;
        return true;
    }

    public int chain() throws IllegalStateException {
        if (!roundWas) {
            throw new IllegalStateException();
        }
        int moves = 0;
        while (moves < MAX_STEPS && moveOne()) {
            moves++;
        }
        return moves;
    }

    public boolean appeal(int pupil, int flags) {
        if (!isPupil(pupil) || !areFlags(flags)) {
            return false;
        }
        pupils[pupil].flags = flags;
        return true;
    }

    public boolean over(int pupil, int school) throws IllegalArgumentException, IllegalStateException {
        if (!isPupil(pupil)) {
            throw new IllegalArgumentException();
        }
        Pupil who = pupils[pupil];
        if (who.placeOf(school) == NONE || who.school == school) {
            throw new IllegalArgumentException();
        }
        if (!roundWas || who.hasLeft()) {
            throw new IllegalStateException();
        }
        who.sitAt(school, NONE);
        return true;
    }

    public int seat(int pupil, int w) {
        if (!isPupil(pupil)) {
            return NONE;
        }
        Pupil who = pupils[pupil];
        switch (w) {
            case 0:
                return who.school;
            case 1:
                return who.kind;
            case 2:
                return who.asked;
            case 3:
                return who.answered;
            case 4:
                return who.stays;
            case 5:
                return who.flags;
            default:
                return NONE;
        }
    }

    public int held(int school, int kind, int w) {
        if (!isSchool(school) || kind < 0 || kind >= schools[school].kindCount) {
            return NONE;
        }
        switch (w) {
            case 0:
                return schools[school].kinds[kind].seats;
            case 1:
                return countHolders(school, kind);
            case 2:
                return lastHolder(school, kind);
            default:
                return NONE;
        }
    }

    public int blocking(int i) {
        if (!roundWas) {
            return NONE;
        }
        int found = 0;
        for (int p = 0; p < pupilCount; p++) {
            Pupil who = pupils[p];
            for (int place = 0; place < who.listed; place++) {
                int school = who.list[place];
                if (blocks(p, school)) {
                    if (found == i) {
                        return 8 * p + school;
                    }
                    found++;
                }
            }
        }
        return i == HOW_MANY ? found : NONE;
    }

    public boolean envies(int a, int b) throws IllegalArgumentException {
        if (!isPupil(a) || !isPupil(b) || pupils[b].kind == NONE) {
            throw new IllegalArgumentException();
        }
        int school = pupils[b].school;
        int kind = pupils[b].kind;
        if (!pupils[a].prefers(school)) {
            return false;
        }
        int holders = standing(b, school, kind);
        return holders < NOT_ELIGIBLE && standing(a, school, kind) < holders;
    }

    public int why(int pupil, int school) {
        if (!isPupil(pupil) || !isSchool(school)) {
            return NONE;
        }
        Pupil who = pupils[pupil];
        if (who.school == school) {
            return 0;
        }
        if (who.placeOf(school) == NONE) {
            return 1;
        }
        if (!schools[school].admits(who.flags)) {
            return 2;
        }
        return who.prefers(school) ? 4 : 3;
    }

    public int look(int which) {
        switch (which) {
            case 0:
                return schoolCount;
            case 1:
                return pupilCount;
            case 2:
                return roundWas ? 1 : 0;
            case 3:
                return countAsks();
            case 4:
                return countPlaced();
            default:
                return NONE;
        }
    }

    private boolean isSchool(int school) {
        return school >= 0 && school < schoolCount;
    }

    private boolean isPupil(int pupil) {
        return pupil >= 0 && pupil < pupilCount;
    }

    private static boolean areFlags(int flags) {
        return flags >= 0 && flags <= MAX_FLAGS;
    }

    private int countPlaced() {
        int placed = 0;
        for (int p = 0; p < pupilCount; p++) {
            if (pupils[p].isPlaced()) {
                placed++;
            }
        }
        return placed;
    }

    private int countAsks() {
        int asks = 0;
        for (int p = 0; p < pupilCount; p++) {
            asks += pupils[p].asked;
        }
        return asks;
    }

    private int countHolders(int school, int kind) {
        int holders = 0;
        for (int p = 0; p < pupilCount; p++) {
            if (pupils[p].holds(school, kind)) {
                holders++;
            }
        }
        return holders;
    }

    private int lastHolder(int school, int kind) {
        int last = NONE;
        int lastStanding = NONE;
        for (int p = 0; p < pupilCount; p++) {
            if (pupils[p].holds(school, kind)) {
                int its = standing(p, school, kind);
                if (its > lastStanding) {
                    last = p;
                    lastStanding = its;
                }
            }
        }
        return last;
    }

    /**
     * Late, band and NUMBER in one: the lesser stands before the greater. Those who are not
     * eligible come behind all others, in the order of their own numbers, as promise 14 asks.
     */
    private int standing(int pupil, int school, int kind) {
        Pupil who = pupils[pupil];
        int band = schools[school].kinds[kind].bandOf(who.flags);
        if (band == NONE) {
            return NOT_ELIGIBLE + pupil;
        }
        int group = who.late ? MAX_BANDS + band : band;
        return group * NUMBER_SPAN + who.numbers[school];
    }

    private int nextAsker() {
        for (int p = 0; p < pupilCount; p++) {
            if (!pupils[p].isPlaced() && pupils[p].asked < pupils[p].listed) {
                return p;
            }
        }
        return NONE;
    }

    private void askNext(int asker) {
        Pupil who = pupils[asker];
        int school = who.list[who.asked];
        who.asked++;
        choose(school, asker);
        for (int i = 0; i < poolSize; i++) {
            pupils[pool[i]].giveUpSeat();
        }
        for (int p = 0; p < pupilCount; p++) {
            if (taker[p] != NONE) {
                pupils[p].sitAt(school, taker[p]);
            }
        }
    }

    /** Chooses from the holders and one more; taker tells the outcome, the pool keeps the rest. */
    private void choose(int school, int oneMore) {
        poolSize = 0;
        for (int p = 0; p < pupilCount; p++) {
            taker[p] = NONE;
            if (p == oneMore || pupils[p].holdsAnyKind(school)) {
                pool[poolSize] = p;
                poolSize++;
            }
        }
        for (int k = 0; k < schools[school].kindCount; k++) {
            takeFromPool(school, k);
        }
    }

    private void takeFromPool(int school, int kind) {
        int seats = schools[school].kinds[kind].seats;
        for (int taken = 0; taken < seats; taken++) {
            int at = firstInPool(school, kind);
            if (at == NONE) {
                return;
            }
            taker[pool[at]] = kind;
            poolSize--;
            pool[at] = pool[poolSize];
        }
    }

    private int firstInPool(int school, int kind) {
        int first = NONE;
        int firstStanding = NOT_ELIGIBLE;
        for (int i = 0; i < poolSize; i++) {
            int its = standing(pool[i], school, kind);
            if (its < firstStanding) {
                first = i;
                firstStanding = its;
            }
        }
        return first;
    }

    private boolean moveOne() {
        for (int s = 0; s < schoolCount; s++) {
            for (int k = 0; k < schools[s].kindCount; k++) {
                if (countHolders(s, k) < schools[s].kinds[k].seats) {
                    int mover = firstWaiting(s, k);
                    if (mover != NONE) {
                        pupils[mover].sitAt(s, k);
                        return true;
                    }
                }
            }
        }
        return false;
    }

    private int firstWaiting(int school, int kind) {
        int first = NONE;
        int firstStanding = NOT_ELIGIBLE;
        for (int p = 0; p < pupilCount; p++) {
            if (pupils[p].waitsFor(school)) {
                int its = standing(p, school, kind);
                if (its < firstStanding) {
                    first = p;
                    firstStanding = its;
                }
            }
        }
        return first;
    }

    private boolean blocks(int pupil, int school) {
        Pupil who = pupils[pupil];
        if (who.hasLeft() || !who.prefers(school)) {
            return false;
        }
        choose(school, pupil);
        return taker[pupil] != NONE;
    }

    private static final class Kind {
        final int[] bands;
        int bandCount;
        int seats;

        Kind() {
            bands = new int[MAX_BANDS];
        }

        void setBands(int band0, int band1, int band2) {
            bands[0] = band0;
            bands[1] = band1;
            bands[2] = band2;
            bandCount = 0;
            while (bandCount < MAX_BANDS && bands[bandCount] >= 0) {
                bandCount++;
            }
        }

        int bandOf(int flags) {
            for (int b = 0; b < bandCount; b++) {
                if ((flags & bands[b]) == bands[b]) {
                    return b;
                }
            }
            return NONE;
        }
    }

    private static final class School {
        final Kind[] kinds;
        int kindCount;

        School() {
            kinds = new Kind[MAX_KINDS];
            for (int k = 0; k < MAX_KINDS; k++) {
                kinds[k] = new Kind();
            }
        }

        boolean admits(int flags) {
            for (int k = 0; k < kindCount; k++) {
                if (kinds[k].bandOf(flags) != NONE) {
                    return true;
                }
            }
            return false;
        }
    }

    private static final class Pupil {
        final int[] list;
        int listed;
        /** The NUMBER at each school, those that are not there yet too. */
        final int[] numbers;
        int flags;
        boolean late;
        int school;
        /** NONE above number, too. */
        int kind;
        int asked;
        int answered;
        int stays;

        Pupil(int own) {
            list = new int[MAX_LIST];
            numbers = new int[MAX_SCHOOLS];
            for (int s = 0; s < MAX_SCHOOLS; s++) {
                numbers[s] = FIRST_NUMBER + own;
            }
            school = NONE;
            kind = NONE;
            answered = NO_ANSWER;
        }

        int placeOf(int wanted) {
            for (int place = 0; place < listed; place++) {
                if (list[place] == wanted) {
                    return place;
                }
            }
            return NONE;
        }

        boolean isPlaced() {
            return school != NONE;
        }

        boolean hasLeft() {
            return answered == LEFT;
        }

        boolean holds(int atSchool, int ofKind) {
            return school == atSchool && kind == ofKind;
        }

        boolean holdsAnyKind(int atSchool) {
            return school == atSchool && kind != NONE;
        }

        /** Whether a school is in the list and above the pupil's own, if it has one. */
        boolean prefers(int wanted) {
            int place = placeOf(wanted);
            return place != NONE && (!isPlaced() || place < placeOf(school));
        }

        boolean waitsFor(int wanted) {
            return prefers(wanted) && placeOf(wanted) < stays;
        }

        void sitAt(int newSchool, int newKind) {
            school = newSchool;
            kind = newKind;
        }

        void giveUpSeat() {
            sitAt(NONE, NONE);
        }

        boolean mayAnswer() {
            return answered == NO_ANSWER && isPlaced();
        }

        boolean accept() {
            if (!mayAnswer()) {
                return false;
            }
            answered = ACCEPTED;
            return true;
        }

        boolean decline() {
            if (!mayAnswer()) {
                return false;
            }
            answered = DECLINED;
            giveUpSeat();
            stays = 0;
            return true;
        }

        void leave() {
            answered = LEFT;
            giveUpSeat();
            stays = 0;
        }
    }
}
