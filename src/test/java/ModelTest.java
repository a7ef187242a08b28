import java.util.ArrayList;
import java.util.Comparator;
import java.util.List;

/**
 * Long mixed runs of calls against a second, plainly written office: it sorts where the program
 * scans, and in the round lets another pupil ask first.
 */
public final class ModelTest {
    private static final int RUNS = 3000;
    private static final int CALLS = 200;

    private long seed;

    public static void main(String[] args) {
        ModelTest test = new ModelTest();
        for (int run = 0; run < RUNS; run++) {
            Check.part("mixed run " + run);
            test.seed = run * 7919L + 17;
            test.mixedRun();
        }
        Check.end();
    }

    /** A row of numbers that is the same in every run of the test. */
    private int next(int below) {
        seed = seed * 6364136223846793005L + 1442695040888963407L;
        return (int) ((seed >>> 33) % below);
    }

    private int around(int count) {
        return next(12) == 0 ? next(3) * (count + 1) - 1 : next(Math.max(count, 1));
    }

    private void mixedRun() {
        SeatOffice x = new SeatOffice();
        Model m = new Model();
        int before = 20 + next(100);
        for (int call = 0; call < CALLS; call++) {
            String what = call == before ? same(x, m, 6) : same(x, m, oneOf(call < before));
            if (call % 20 == 19 || call == CALLS - 1) {
                compareAll(what, x, m);
            }
        }
    }

    private int oneOf(boolean beforeRound) {
        int[] early = {1, 2, 2, 3, 3, 3, 4, 4, 4, 4, 4, 4, 5, 5, 5, 5, 10};
        int[] late = {7, 7, 7, 8, 8, 8, 8, 9, 9, 9, 10, 10, 11, 11};
        if (next(40) == 0) {
            int any = 1 + next(11);
            return any == 6 && beforeRound ? 7 : any;
        }
        return beforeRound ? early[next(early.length)] : late[next(late.length)];
    }

    /** Makes one call of both and compares; an exception counts as a number of its own. */
    private String same(SeatOffice x, Model m, int method) {
        int[] a = arguments(m, method);
        long got = call(x, method, a);
        long due = m.call(method, a);
        String text = method + java.util.Arrays.toString(a);
        Check.is(text, got, due);
        return text;
    }

    private int[] arguments(Model m, int method) {
        int schools = m.kinds.size();
        int pupils = m.pupils.size();
        switch (method) {
            case 2:
                return new int[] {around(schools), next(10) == 0 ? next(9) - 1 : next(3), band(), band(), band()};
            case 3:
                return new int[] {next(20) == 0 ? next(20) - 2 : next(16), next(4) == 0 ? 1 : 0};
            case 4:
            case 11:
                return new int[] {around(pupils), around(schools)};
            case 5:
                return new int[] {around(pupils), around(schools), next(10) == 0 ? next(1003) - 1 : next(25)};
            case 7:
                return new int[] {around(pupils), next(10) == 0 ? next(5) - 1 : next(8) / 3};
            case 8:
                return new int[] {around(pupils), next(10) == 0 ? next(7) - 1 : next(5)};
            case 10:
                return new int[] {around(pupils), next(10) == 0 ? next(20) - 2 : next(16)};
            default:
                return new int[0];
        }
    }

    private int band() {
        int way = next(10);
        return way == 0 ? -1 - next(3) : way == 1 ? next(18) : way < 6 ? 0 : 1 << next(4);
    }

    private static long call(SeatOffice x, int method, int[] a) {
        try {
            switch (method) {
                case 1: return x.school();
                case 2: return x.kind(a[0], a[1], a[2], a[3], a[4]);
                case 3: return x.pupil(a[0], a[1] == 1);
                case 4: return x.wish(a[0], a[1]);
                case 5: return x.draw(a[0], a[1], a[2]) ? 1 : 0;
                case 6: return x.run();
                case 7: return x.answer(a[0], a[1]) ? 1 : 0;
                case 8: return x.stay(a[0], a[1]) ? 1 : 0;
                case 9: return x.chain();
                case 10: return x.appeal(a[0], a[1]) ? 1 : 0;
                default: return x.over(a[0], a[1]) ? 1 : 0;
            }
        } catch (IllegalArgumentException e) {
            return Model.ARGUMENT;
        } catch (IllegalStateException e) {
            return Model.STATE;
        }
    }

    private static void compareAll(String behind, SeatOffice x, Model m) {
        String text = "behind " + behind + " ";
        for (int which = -1; which < 6; which++) {
            Check.is(text + "look " + which, x.look(which), m.look(which));
        }
        for (int p = -1; p <= m.pupils.size(); p++) {
            for (int w = -1; w < 7; w++) {
                Check.is(text + "seat " + p + " " + w, x.seat(p, w), m.seat(p, w));
            }
            for (int s = -1; s <= m.kinds.size(); s++) {
                Check.is(text + "why " + p + " " + s, x.why(p, s), m.why(p, s));
            }
            for (int b = -1; b <= m.pupils.size(); b++) {
                long got;
                try {
                    got = x.envies(p, b) ? 1 : 0;
                } catch (IllegalArgumentException e) {
                    got = Model.ARGUMENT;
                }
                Check.is(text + "envies " + p + " " + b, got, m.envies(p, b));
            }
        }
        for (int s = -1; s <= m.kinds.size(); s++) {
            for (int k = -1; k < 4; k++) {
                for (int w = -1; w < 4; w++) {
                    Check.is(text + "held " + s + " " + k + " " + w, x.held(s, k, w), m.held(s, k, w));
                }
            }
        }
        for (int i = -2; i <= Math.max(0, x.blocking(-1)); i++) {
            Check.is(text + "blocking " + i, x.blocking(i), m.blocking(i));
        }
    }

    /** The document once more, with lists and sorting. */
    private static final class Model {
        static final long ARGUMENT = -1001;
        static final long STATE = -1002;

        final List<List<int[]>> kinds = new ArrayList<>();
        final List<Pupil> pupils = new ArrayList<>();
        boolean ran;

        static final class Pupil {
            int own;
            int flags;
            boolean late;
            List<Integer> list = new ArrayList<>();
            int[] number = new int[6];
            int asked;
            Integer school;
            Integer kind;
            boolean accepted;
            boolean declined;
            boolean left;
            int stays;

            List<Integer> above() {
                return school == null ? list : list.subList(0, list.indexOf(school));
            }
        }

        long call(int method, int[] a) {
            switch (method) {
                case 1: return school();
                case 2: return kind(a);
                case 3: return pupil(a[0], a[1] == 1);
                case 4: return wish(a[0], a[1]);
                case 5: return draw(a[0], a[1], a[2]) ? 1 : 0;
                case 6: return round();
                case 7: return answer(a[0], a[1]) ? 1 : 0;
                case 8: return stay(a[0], a[1]) ? 1 : 0;
                case 9: return chain();
                case 10: return appeal(a[0], a[1]) ? 1 : 0;
                default: return over(a[0], a[1]);
            }
        }

        boolean noPupil(int p) {
            return p < 0 || p >= pupils.size();
        }

        boolean noSchool(int s) {
            return s < 0 || s >= kinds.size();
        }

        long school() {
            if (ran || kinds.size() == 6) {
                return STATE;
            }
            kinds.add(new ArrayList<>());
            return kinds.size() - 1;
        }

        long kind(int[] a) {
            if (noSchool(a[0]) || a[1] < 0 || a[1] > 6 || a[2] > 15 || a[3] > 15 || a[4] > 15) {
                return ARGUMENT;
            }
            if (ran || kinds.get(a[0]).size() == 3) {
                return STATE;
            }
            kinds.get(a[0]).add(a.clone());
            return kinds.get(a[0]).size() - 1;
        }

        long pupil(int flags, boolean late) {
            if (flags < 0 || flags > 15) {
                return ARGUMENT;
            }
            if (ran || pupils.size() == 20) {
                return STATE;
            }
            Pupil p = new Pupil();
            p.own = pupils.size();
            p.flags = flags;
            p.late = late;
            for (int s = 0; s < 6; s++) {
                p.number[s] = 1000 + p.own;
            }
            pupils.add(p);
            return p.own;
        }

        long wish(int p, int s) {
            if (noPupil(p) || noSchool(s) || pupils.get(p).list.contains(s)) {
                return ARGUMENT;
            }
            if (ran || pupils.get(p).list.size() == 4) {
                return STATE;
            }
            pupils.get(p).list.add(s);
            return pupils.get(p).list.size();
        }

        boolean draw(int p, int s, int n) {
            if (noPupil(p) || noSchool(s) || n < 0 || n > 999 || ran) {
                return false;
            }
            for (Pupil other : pupils) {
                if (other.own != p && other.number[s] == n) {
                    return false;
                }
            }
            pupils.get(p).number[s] = n;
            return true;
        }

        int band(Pupil p, int s, int k) {
            int[] kind = kinds.get(s).get(k);
            for (int b = 0; b < 3; b++) {
                int band = kind[2 + b];
                if (band < 0) {
                    return -1;
                }
                boolean all = true;
                for (int bit = 0; bit < 4; bit++) {
                    boolean asked = (band >> bit) % 2 == 1;
                    boolean has = (p.flags >> bit) % 2 == 1;
                    all &= has || !asked;
                }
                if (all) {
                    return b;
                }
            }
            return -1;
        }

        Comparator<Pupil> order(int s, int k) {
            return (a, b) -> {
                if (a.late != b.late) {
                    return a.late ? 1 : -1;
                }
                int byBand = band(a, s, k) - band(b, s, k);
                return byBand != 0 ? byBand : a.number[s] - b.number[s];
            };
        }

        List<Pupil> eligible(List<Pupil> from, int s, int k) {
            List<Pupil> some = new ArrayList<>();
            for (Pupil p : from) {
                if (band(p, s, k) >= 0) {
                    some.add(p);
                }
            }
            some.sort(order(s, k));
            return some;
        }

        /** For each kind of a school those whom it takes. */
        List<List<Pupil>> choice(List<Pupil> from, int s) {
            List<Pupil> rest = new ArrayList<>(from);
            List<List<Pupil>> all = new ArrayList<>();
            for (int k = 0; k < kinds.get(s).size(); k++) {
                List<Pupil> some = eligible(rest, s, k);
                List<Pupil> taken = some.subList(0, Math.min(some.size(), kinds.get(s).get(k)[1]));
                rest.removeAll(taken);
                all.add(taken);
            }
            return all;
        }

        List<Pupil> holders(int s, Integer k) {
            List<Pupil> all = new ArrayList<>();
            for (Pupil p : pupils) {
                boolean here = p.school != null && p.school == s && p.kind != null;
                if (here && (k == null || p.kind.equals(k))) {
                    all.add(p);
                }
            }
            return all;
        }

        long round() {
            if (ran) {
                return STATE;
            }
            boolean again = true;
            while (again) {
                again = false;
                for (int i = pupils.size() - 1; i >= 0; i--) {
                    Pupil p = pupils.get(i);
                    if (p.school == null && p.asked < p.list.size()) {
                        ask(p);
                        again = true;
                    }
                }
            }
            ran = true;
            return look(4);
        }

        void ask(Pupil p) {
            int s = p.list.get(p.asked);
            p.asked++;
            List<Pupil> from = holders(s, null);
            from.add(p);
            List<List<Pupil>> chosen = choice(from, s);
            for (Pupil one : from) {
                one.school = null;
                one.kind = null;
            }
            for (int k = 0; k < chosen.size(); k++) {
                for (Pupil one : chosen.get(k)) {
                    one.school = s;
                    one.kind = k;
                }
            }
        }

        boolean answer(int p, int what) {
            if (noPupil(p) || what < 0 || what > 2 || !ran || pupils.get(p).left) {
                return false;
            }
            Pupil who = pupils.get(p);
            if (what < 2 && (who.school == null || who.accepted || who.declined)) {
                return false;
            }
            who.accepted |= what == 0;
            who.declined |= what == 1;
            who.left |= what == 2;
            if (what > 0) {
                who.school = null;
                who.kind = null;
                who.stays = 0;
            }
            return true;
        }

        boolean stay(int p, int to) {
            if (noPupil(p) || to < 0 || to > 4 || !ran || pupils.get(p).left) {
                return false;
            }
            pupils.get(p).stays = to;
            return true;
        }

        long chain() {
            if (!ran) {
                return STATE;
            }
            int moves = 0;
            while (move()) {
                moves++;
            }
            return moves;
        }

        boolean move() {
            for (int s = 0; s < kinds.size(); s++) {
                List<Pupil> waiting = new ArrayList<>();
                for (Pupil p : pupils) {
                    if (p.above().contains(s) && p.list.indexOf(s) < p.stays) {
                        waiting.add(p);
                    }
                }
                for (int k = 0; k < kinds.get(s).size(); k++) {
                    List<Pupil> some = eligible(waiting, s, k);
                    if (holders(s, k).size() < kinds.get(s).get(k)[1] && !some.isEmpty()) {
                        some.get(0).school = s;
                        some.get(0).kind = k;
                        return true;
                    }
                }
            }
            return false;
        }

        boolean appeal(int p, int flags) {
            if (noPupil(p) || flags < 0 || flags > 15) {
                return false;
            }
            pupils.get(p).flags = flags;
            return true;
        }

        long over(int p, int s) {
            if (noPupil(p) || !pupils.get(p).list.contains(s)) {
                return ARGUMENT;
            }
            Pupil who = pupils.get(p);
            if (who.school != null && who.school == s) {
                return ARGUMENT;
            }
            if (!ran || who.left) {
                return STATE;
            }
            who.school = s;
            who.kind = null;
            return 1;
        }

        int seat(int p, int w) {
            if (noPupil(p) || w < 0 || w > 5) {
                return -1;
            }
            Pupil who = pupils.get(p);
            int answered = who.left ? 3 : who.declined ? 2 : who.accepted ? 1 : 0;
            int school = who.school == null ? -1 : who.school;
            int kind = who.kind == null ? -1 : who.kind;
            return new int[] {school, kind, who.asked, answered, who.stays, who.flags}[w];
        }

        int held(int s, int k, int w) {
            if (noSchool(s) || k < 0 || k >= kinds.get(s).size() || w < 0 || w > 2) {
                return -1;
            }
            List<Pupil> all = holders(s, k);
            List<Pupil> some = eligible(all, s, k);
            int last = -1;
            if (!all.isEmpty()) {
                last = some.isEmpty() ? all.get(all.size() - 1).own : some.get(some.size() - 1).own;
                for (Pupil p : all) {
                    last = some.contains(p) ? last : p.own;
                }
            }
            return new int[] {kinds.get(s).get(k)[1], all.size(), last}[w];
        }

        int blocking(int i) {
            if (!ran) {
                return -1;
            }
            List<Integer> pairs = new ArrayList<>();
            for (Pupil p : pupils) {
                for (int s : p.left ? new ArrayList<Integer>() : p.above()) {
                    List<Pupil> from = holders(s, null);
                    from.add(p);
                    for (List<Pupil> taken : choice(from, s)) {
                        if (taken.contains(p)) {
                            pairs.add(8 * p.own + s);
                        }
                    }
                }
            }
            return i == -1 ? pairs.size() : i < 0 || i >= pairs.size() ? -1 : pairs.get(i);
        }

        long envies(int a, int b) {
            if (noPupil(a) || noPupil(b) || pupils.get(b).kind == null) {
                return ARGUMENT;
            }
            Pupil one = pupils.get(a);
            Pupil other = pupils.get(b);
            boolean rather = one.above().contains(other.school);
            boolean both = band(one, other.school, other.kind) >= 0 && band(other, other.school, other.kind) >= 0;
            return rather && both && order(other.school, other.kind).compare(one, other) < 0 ? 1 : 0;
        }

        int why(int p, int s) {
            if (noPupil(p) || noSchool(s)) {
                return -1;
            }
            Pupil who = pupils.get(p);
            if (who.school != null && who.school == s) {
                return 0;
            }
            if (!who.list.contains(s)) {
                return 1;
            }
            boolean any = false;
            for (int k = 0; k < kinds.get(s).size(); k++) {
                any |= band(who, s, k) >= 0;
            }
            if (!any) {
                return 2;
            }
            return who.above().contains(s) ? 4 : 3;
        }

        int look(int which) {
            int asks = 0;
            int placed = 0;
            for (Pupil p : pupils) {
                asks += p.asked;
                placed += p.school == null ? 0 : 1;
            }
            int[] all = {kinds.size(), pupils.size(), ran ? 1 : 0, asks, placed};
            return which < 0 || which > 4 ? -1 : all[which];
        }
    }
}
