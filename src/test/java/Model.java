import java.util.ArrayList;
import java.util.Comparator;
import java.util.List;

/**
 * The document once more, written with lists and sorting where the program scans; in the round
 * it lets another pupil ask first.
 */
final class Model {
    private static final long ARGUMENT = -1001;
    private static final long STATE = -1002;

    final List<List<int[]>> kinds = new ArrayList<>();
    final List<Pupil> pupils = new ArrayList<>();
    boolean ran;

    static final class Pupil {
        int own;
        int flags;
        boolean late;
        List<Integer> list = new ArrayList<>();
        int[] number = new int[6];
        int asked;
        Integer school;
        Integer kind;
        boolean accepted;
        boolean declined;
        boolean left;
        int stays;

        List<Integer> above() {
            return school == null ? list : list.subList(0, list.indexOf(school));
        }
    }

    String say(String method, int... a) {
        switch (method) {
            case "school": return text(school());
            case "kind": return text(kind(a));
            case "pupil": return text(pupil(a[0], a[1] == 1));
            case "wish": return text(wish(a[0], a[1]));
            case "draw": return text(draw(a[0], a[1], a[2]));
            case "run": return text(round());
            case "answer": return text(answer(a[0], a[1]));
            case "stay": return text(stay(a[0], a[1]));
            case "chain": return text(chain());
            case "appeal": return text(appeal(a[0], a[1]));
            case "over": return over(a[0], a[1]);
            case "seat": return text(seat(a[0], a[1]));
            case "held": return text(held(a[0], a[1], a[2]));
            case "blocking": return text(blocking(a[0]));
            case "envies": return envies(a[0], a[1]);
            case "why": return text(why(a[0], a[1]));
            default: return text(look(a[0]));
        }
    }

    private static String text(long answer) {
        return answer == ARGUMENT ? "argument" : answer == STATE ? "state" : String.valueOf(answer);
    }

    private static String text(boolean answer) {
        return String.valueOf(answer);
    }

    boolean noPupil(int p) {
        return p < 0 || p >= pupils.size();
    }

    boolean noSchool(int s) {
        return s < 0 || s >= kinds.size();
    }

    long school() {
        if (ran || kinds.size() == 6) {
            return STATE;
        }
        kinds.add(new ArrayList<>());
        return kinds.size() - 1;
    }

    long kind(int[] a) {
        if (noSchool(a[0]) || a[1] < 0 || a[1] > 6 || a[2] > 15 || a[3] > 15 || a[4] > 15) {
            return ARGUMENT;
        }
        if (ran || kinds.get(a[0]).size() == 3) {
            return STATE;
        }
        kinds.get(a[0]).add(a.clone());
        return kinds.get(a[0]).size() - 1;
    }

    long pupil(int flags, boolean late) {
        if (flags < 0 || flags > 15) {
            return ARGUMENT;
        }
        if (ran || pupils.size() == 20) {
            return STATE;
        }
        Pupil p = new Pupil();
        p.own = pupils.size();
        p.flags = flags;
        p.late = late;
        for (int s = 0; s < 6; s++) {
            p.number[s] = 1000 + p.own;
        }
        pupils.add(p);
        return p.own;
    }

    long wish(int p, int s) {
        if (noPupil(p) || noSchool(s) || pupils.get(p).list.contains(s)) {
            return ARGUMENT;
        }
        if (ran || pupils.get(p).list.size() == 4) {
            return STATE;
        }
        pupils.get(p).list.add(s);
        return pupils.get(p).list.size();
    }

    boolean draw(int p, int s, int n) {
        if (noPupil(p) || noSchool(s) || n < 0 || n > 999 || ran) {
            return false;
        }
        for (Pupil other : pupils) {
            if (other.own != p && other.number[s] == n) {
                return false;
            }
        }
        pupils.get(p).number[s] = n;
        return true;
    }

    int band(Pupil p, int s, int k) {
        int[] kind = kinds.get(s).get(k);
        for (int b = 0; b < 3; b++) {
            int band = kind[2 + b];
            if (band < 0) {
                return -1;
            }
            boolean all = true;
            for (int bit = 0; bit < 4; bit++) {
                boolean asked = (band >> bit) % 2 == 1;
                boolean has = (p.flags >> bit) % 2 == 1;
                all &= has || !asked;
            }
            if (all) {
                return b;
            }
        }
        return -1;
    }

    Comparator<Pupil> order(int s, int k) {
        return (a, b) -> {
            if (a.late != b.late) {
                return a.late ? 1 : -1;
            }
            int byBand = band(a, s, k) - band(b, s, k);
            return byBand != 0 ? byBand : a.number[s] - b.number[s];
        };
    }

    List<Pupil> eligible(List<Pupil> from, int s, int k) {
        List<Pupil> some = new ArrayList<>();
        for (Pupil p : from) {
            if (band(p, s, k) >= 0) {
                some.add(p);
            }
        }
        some.sort(order(s, k));
        return some;
    }

    /** For each kind of a school those whom it takes. */
    List<List<Pupil>> choice(List<Pupil> from, int s) {
        List<Pupil> rest = new ArrayList<>(from);
        List<List<Pupil>> all = new ArrayList<>();
        for (int k = 0; k < kinds.get(s).size(); k++) {
            List<Pupil> some = eligible(rest, s, k);
            List<Pupil> taken = some.subList(0, Math.min(some.size(), kinds.get(s).get(k)[1]));
            rest.removeAll(taken);
            all.add(taken);
        }
        return all;
    }

    List<Pupil> holders(int s, Integer k) {
        List<Pupil> all = new ArrayList<>();
        for (Pupil p : pupils) {
            boolean here = p.school != null && p.school == s && p.kind != null;
            if (here && (k == null || p.kind.equals(k))) {
                all.add(p);
            }
        }
        return all;
    }

    long round() {
        if (ran) {
            return STATE;
        }
        boolean again = true;
        while (again) {
            again = false;
            for (int i = pupils.size() - 1; i >= 0; i--) {
                Pupil p = pupils.get(i);
                if (p.school == null && p.asked < p.list.size()) {
                    ask(p);
                    again = true;
                }
            }
        }
        ran = true;
        return look(4);
    }

    void ask(Pupil p) {
        int s = p.list.get(p.asked);
        p.asked++;
        List<Pupil> from = holders(s, null);
        from.add(p);
        List<List<Pupil>> chosen = choice(from, s);
        for (Pupil one : from) {
            one.school = null;
            one.kind = null;
        }
        for (int k = 0; k < chosen.size(); k++) {
            for (Pupil one : chosen.get(k)) {
                one.school = s;
                one.kind = k;
            }
        }
    }

    boolean answer(int p, int what) {
        if (noPupil(p) || what < 0 || what > 2 || !ran || pupils.get(p).left) {
            return false;
        }
        Pupil who = pupils.get(p);
        if (what < 2 && (who.school == null || who.accepted || who.declined)) {
            return false;
        }
        who.accepted |= what == 0;
        who.declined |= what == 1;
        who.left |= what == 2;
        if (what > 0) {
            who.school = null;
            who.kind = null;
            who.stays = 0;
        }
        return true;
    }

    boolean stay(int p, int to) {
        if (noPupil(p) || to < 0 || to > 4 || !ran || pupils.get(p).left) {
            return false;
        }
        pupils.get(p).stays = to;
        return true;
    }

    long chain() {
        if (!ran) {
            return STATE;
        }
        int moves = 0;
        while (move()) {
            moves++;
        }
        return moves;
    }

    boolean move() {
        for (int s = 0; s < kinds.size(); s++) {
            List<Pupil> waiting = new ArrayList<>();
            for (Pupil p : pupils) {
                if (p.above().contains(s) && p.list.indexOf(s) < p.stays) {
                    waiting.add(p);
                }
            }
            for (int k = 0; k < kinds.get(s).size(); k++) {
                List<Pupil> some = eligible(waiting, s, k);
                if (holders(s, k).size() < kinds.get(s).get(k)[1] && !some.isEmpty()) {
                    some.get(0).school = s;
                    some.get(0).kind = k;
                    return true;
                }
            }
        }
        return false;
    }

    boolean appeal(int p, int flags) {
        if (noPupil(p) || flags < 0 || flags > 15) {
            return false;
        }
        pupils.get(p).flags = flags;
        return true;
    }

    String over(int p, int s) {
        if (noPupil(p) || !pupils.get(p).list.contains(s)) {
            return text(ARGUMENT);
        }
        Pupil who = pupils.get(p);
        if (who.school != null && who.school == s) {
            return text(ARGUMENT);
        }
        if (!ran || who.left) {
            return text(STATE);
        }
        who.school = s;
        who.kind = null;
        return text(true);
    }

    int seat(int p, int w) {
        if (noPupil(p) || w < 0 || w > 5) {
            return -1;
        }
        Pupil who = pupils.get(p);
        int answered = who.left ? 3 : who.declined ? 2 : who.accepted ? 1 : 0;
        int school = who.school == null ? -1 : who.school;
        int kind = who.kind == null ? -1 : who.kind;
        return new int[] {school, kind, who.asked, answered, who.stays, who.flags}[w];
    }

    int held(int s, int k, int w) {
        if (noSchool(s) || k < 0 || k >= kinds.get(s).size() || w < 0 || w > 2) {
            return -1;
        }
        List<Pupil> all = holders(s, k);
        List<Pupil> some = eligible(all, s, k);
        int last = -1;
        if (!all.isEmpty()) {
            last = some.isEmpty() ? all.get(all.size() - 1).own : some.get(some.size() - 1).own;
            for (Pupil p : all) {
                last = some.contains(p) ? last : p.own;
            }
        }
        return new int[] {kinds.get(s).get(k)[1], all.size(), last}[w];
    }

    int blocking(int i) {
        if (!ran) {
            return -1;
        }
        List<Integer> pairs = new ArrayList<>();
        for (Pupil p : pupils) {
            for (int s : p.left ? new ArrayList<Integer>() : p.above()) {
                List<Pupil> from = holders(s, null);
                from.add(p);
                for (List<Pupil> taken : choice(from, s)) {
                    if (taken.contains(p)) {
                        pairs.add(8 * p.own + s);
                    }
                }
            }
        }
        return i == -1 ? pairs.size() : i < 0 || i >= pairs.size() ? -1 : pairs.get(i);
    }

    String envies(int a, int b) {
        if (noPupil(a) || noPupil(b) || pupils.get(b).kind == null) {
            return text(ARGUMENT);
        }
        Pupil one = pupils.get(a);
        Pupil other = pupils.get(b);
        boolean rather = one.above().contains(other.school);
        boolean both = band(one, other.school, other.kind) >= 0 && band(other, other.school, other.kind) >= 0;
        return text(rather && both && order(other.school, other.kind).compare(one, other) < 0);
    }

    int why(int p, int s) {
        if (noPupil(p) || noSchool(s)) {
            return -1;
        }
        Pupil who = pupils.get(p);
        if (who.school != null && who.school == s) {
            return 0;
        }
        if (!who.list.contains(s)) {
            return 1;
        }
        boolean any = false;
        for (int k = 0; k < kinds.get(s).size(); k++) {
            any |= band(who, s, k) >= 0;
        }
        if (!any) {
            return 2;
        }
        return who.above().contains(s) ? 4 : 3;
    }

    int look(int which) {
        int asks = 0;
        int placed = 0;
        for (Pupil p : pupils) {
            asks += p.asked;
            placed += p.school == null ? 0 : 1;
        }
        int[] all = {kinds.size(), pupils.size(), ran ? 1 : 0, asks, placed};
        return which < 0 || which > 4 ? -1 : all[which];
    }
}
