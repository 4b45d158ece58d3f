import java.util.ArrayList;
import java.util.Arrays;
import java.util.HashMap;
import java.util.List;
import java.util.Map;

/**
 * The document once more, in its slowest and plainest form: everything told is kept, and everything
 * asked for is worked out anew from it. It takes calls as a number and a row of arguments.
 */
final class Model {
    private static final int[] LEAST = {0, 10, 0, -30};
    private static final int[] MOST = {99, 60, 200, 50};

    private record Defect(int mile, int yard, int side, int kind) { }

    private record Look(int defect, int day, int size, int doubt, int noted) { }

    private record Rule(int kind, int size, int day, int act, int within) { }

    private record Place(int mile, int yard, int side) { }

    private record Job(int hours, int due, int tools) { }

    private int now = 0;
    private final int[] refusals = new int[7];
    private final Map<Integer, Integer> tons = new HashMap<>();
    private final Map<Integer, Integer> cold = new HashMap<>();
    private final int[] growth = {10, 10, 10, 10};
    /** For each day that has passed the growth of each kind as it was then. */
    private final List<int[]> growthThen = new ArrayList<>();
    private final List<Defect> defects = new ArrayList<>();
    private final List<Integer> closed = new ArrayList<>();
    private final List<Look> looks = new ArrayList<>();
    private final List<Rule> rules = new ArrayList<>();
    private final Map<Integer, Integer> slow = new HashMap<>();
    private int lost = 0;
    private final int[] set = {10, 30, 40, 10};
    private final List<int[]> trains = new ArrayList<>();
    private final int[] walked = new int[20];
    private final int[][] found = new int[20][3];
    private final List<Place> lines = new ArrayList<>();
    private final List<Job> jobs = new ArrayList<>();
    private final int[] tools = {15, 15};
    private final int[] laid = new int[20];
    private final int[] lots = new int[20];
    private final int[] cracks = new int[6];
    private int quarrels = 0;

    Model() {
        Arrays.fill(laid, 10);
    }

    private int no(int code) {
        refusals[-code]++;
        return code;
    }

    private int noAsTold(int code) {
        return 1000000000 - no(code);
    }

    private static boolean in(int v, int least, int most) {
        return v >= least && v <= most;
    }

    int call(int method, int[] a) {
        switch (method) {
            case 0: return day(a[0], a[1], a[2]);
            case 1: return !in(a[0], 0, 1000) ? no(-1) : !in(a[1], 0, 1) ? no(-2) : counted(a[0], a[1]);
            case 2: return growth(a[0], a[1]);
            case 3: return defect(a);
            case 4: return look(a[0], a[1], a[2]);
            case 5: return !isDefect(a[0]) ? no(-1) : !in(a[1], 0, 1) ? no(-2)
                    : closed.contains(a[0]) ? no(-3) : span(a[0])[a[1]];
            case 6: return rule(a);
            case 7: return !isDefect(a[0]) ? no(-1) : closed.contains(a[0]) ? no(-3) : force(a[0]);
            case 8: return !isDefect(a[0]) ? no(-1) : closed.contains(a[0]) ? no(-3) : due(a[0]);
            case 9: return overdue();
            case 10: return close(a[0], a[1]);
            case 11: return slow(a[0], a[1]);
            case 12: return lift(a[0]);
            case 13: return lost;
            case 14: return set(a[0], a[1]);
            case 15: return days(a[0]);
            case 16: return train(a[0], a[1]);
            case 17: return !isWalk(a) ? no(-1) : a[2] < 0 ? no(-4) : a[2] > 1439 ? no(-6) : safe(a[0], a[1], a[2]) ? 1 : 0;
            case 18: return !isWalk(a) ? no(-1) : a[2] < 0 ? no(-4) : a[2] > 1439 ? no(-6) : first(a[0], a[1], a[2]);
            default: return callMore(method, a);
        }
    }

    private int callMore(int method, int[] a) {
        switch (method) {
            case 19: return walked(a);
            case 20: return !in(a[0], 0, 19) ? no(-1) : risk(a[0]);
            case 21: return walks(a[0], a[1]);
            case 22: return doubles(a);
            case 23: return !in(a[0], 0, 19) ? no(-1) : !in(a[1], 0, 1) ? no(-2) : eyes(a[0], a[1]);
            case 24: return line(a[0], a[1], a[2]);
            case 25: return !in(a[0], 0, 1) ? no(-2) : new Joiner().told(a[0]);
            case 26: return !in(a[0], 0, lines.size() - 1) ? no(-1) : new Joiner().defectOf(a[0]);
            case 27: return job(a[0], a[1], a[2]);
            case 28: return gang(a[0], a[1]);
            case 29: return !in(a[0], 0, 1) ? no(-2) : plan(a[0]);
            case 30: return !in(a[0], 0, jobs.size() - 1) ? no(-1) : plan(2 + a[0]);
            case 31: return rail(a[0], a[1], a[2]);
            case 32: return !in(a[0], 0, 19) ? no(-1) : Math.abs(set[3] - laid[a[0]]);
            case 33: return !in(a[0], 0, 5) ? no(-1) : !in(a[1], 0, 1) ? no(-2) : a[1] == 0 ? cracks[a[0]] : miles(a[0]);
            case 34: return worst();
            case 35: return sure();
            default: return count(a[0]);
        }
    }

    private int day(int day, int what, int v) {
        if (!in(day, 0, 1000)) return noAsTold(-1);
        if (!in(what, 0, 1)) return noAsTold(-2);
        if (day < now) return noAsTold(-3);
        if (v < -1) return noAsTold(-4);
        if (v > (what == 0 ? 99 : 40)) return noAsTold(-6);
        Integer was = (what == 0 ? tons : cold).put(day, v);
        return was == null ? -1 : was;
    }

    private int counted(int day, int what) {
        Map<Integer, Integer> told = what == 0 ? tons : cold;
        if (told.getOrDefault(day, -1) >= 0) return told.get(day);
        int best = -1;
        for (int back = 1; back <= 7; back++) best = Math.max(best, told.getOrDefault(day - back, -1));
        return best >= 0 ? best : what == 0 ? 30 : 10;
    }

    private int growth(int kind, int g) {
        if (!in(kind, 0, 3)) return no(-1);
        if (g < 0) return no(-4);
        if (g > 50) return no(-6);
        int was = growth[kind];
        growth[kind] = g;
        return was;
    }

    private int defect(int[] a) {
        if (!in(a[0], 0, 19) || !in(a[3], 0, 3)) return no(-1);
        if (a[1] < 0 || a[2] < 0 || a[4] < 0 || a[5] < 0) return no(-4);
        if (a[1] > 1759 || a[2] > 1 || a[4] > 999 || a[5] > 50) return no(-6);
        if (defects.size() == 40 || looks.size() == 120) return no(-6);
        defects.add(new Defect(a[0], a[1], a[2], a[3]));
        if (a[3] == 3) cracks[lots[a[0]]]++;
        see(defects.size() - 1, a[4], a[5]);
        return defects.size() - 1;
    }

    private int look(int defect, int size, int doubt) {
        if (!isDefect(defect)) return no(-1);
        if (closed.contains(defect)) return no(-3);
        if (size < 0 || doubt < 0) return no(-4);
        if (size > 999 || doubt > 50 || looks.size() == 120) return no(-6);
        int[] span = span(defect);
        boolean quarrel = Math.max(span[0], Math.max(0, size - doubt)) > Math.min(span[1], size + doubt);
        if (quarrel) quarrels++;
        see(defect, size, doubt);
        return quarrel ? 0 : 1;
    }

    private void see(int defect, int size, int doubt) {
        looks.add(new Look(defect, now, size, doubt, -9));
        looks.set(looks.size() - 1, new Look(defect, now, size, doubt, force(defect)));
    }

    private boolean isDefect(int defect) {
        return in(defect, 0, defects.size() - 1);
    }

    private int[] span(int defect) {
        int[] span = null;
        int at = 0;
        for (Look look : looks) {
            if (look.defect != defect) continue;
            int low = Math.max(0, look.size - look.doubt);
            int high = look.size + look.doubt;
            if (span != null) {
                span[1] += grown(defect, at, look.day);
                int least = Math.max(span[0], low);
                int most = Math.min(span[1], high);
                span = least <= most ? new int[] {least, most} : new int[] {low, high};
            } else {
                span = new int[] {low, high};
            }
            at = look.day;
        }
        span[1] += grown(defect, at, now);
        return span;
    }

    private int grown(int defect, int from, int to) {
        int all = 0;
        for (int day = from; day < to; day++) {
            int x = counted(day, 0) * growthThen.get(day)[defects.get(defect).kind];
            if (counted(day, 1) >= 15) x = x + x / 2;
            all += 1 + x / 100;
        }
        return all;
    }

    private int rule(int[] a) {
        if (!in(a[0], 0, 3)) return no(-1);
        if (!in(a[3], 0, 3)) return no(-2);
        if (a[1] < 0 || a[2] < now || a[4] < 0) return no(-4);
        if (a[1] > 999 || a[2] > 1000 || a[4] > 60 || rules.size() == 30) return no(-6);
        rules.add(new Rule(a[0], a[1], a[2], a[3], a[4]));
        return rules.size() - 1;
    }

    private int force(int defect) {
        int greatest = span(defect)[1];
        long best = -1;
        for (int i = 0; i < rules.size(); i++) {
            Rule r = rules.get(i);
            if (r.kind == defects.get(defect).kind && r.day <= now && r.size <= greatest) {
                best = Math.max(best, (r.size * 10000L + r.day) * 100 + i);
            }
        }
        return best < 0 ? -9 : (int) (best % 100);
    }

    private int due(int defect) {
        int rule = force(defect);
        if (rule == -9) return -9;
        int since = now;
        for (int i = looks.size() - 1; i >= 0; i--) {
            Look look = looks.get(i);
            if (look.defect != defect) continue;
            if (look.noted != rule) break;
            since = look.day;
        }
        return since + rules.get(rule).within;
    }

    private int overdue() {
        int n = 0;
        for (int i = 0; i < defects.size(); i++) {
            if (!closed.contains(i) && due(i) != -9 && due(i) < now) n++;
        }
        return n;
    }

    private int close(int defect, int act) {
        if (!isDefect(defect)) return no(-1);
        if (!in(act, 2, 3)) return no(-2);
        if (closed.contains(defect)) return no(-3);
        closed.add(defect);
        if (act == 3) laid[defects.get(defect).mile] = set[3];
        return 1;
    }

    private int slow(int mile, int minutes) {
        if (!in(mile, 0, 19)) return no(-1);
        if (slow.containsKey(mile)) return no(-3);
        if (minutes < 1) return no(-4);
        if (minutes > 30) return no(-6);
        slow.put(mile, minutes);
        return 1;
    }

    private int lift(int mile) {
        if (!in(mile, 0, 19)) return no(-1);
        if (!slow.containsKey(mile)) return no(-3);
        for (int i = 0; i < defects.size(); i++) {
            if (!closed.contains(i) && defects.get(i).mile == mile
                    && force(i) != -9 && rules.get(force(i)).act >= 1) return 0;
        }
        if (Math.abs(set[3] - laid[mile]) > 20) return 0;
        slow.remove(mile);
        return 1;
    }

    private int set(int what, int v) {
        if (!in(what, 0, 3)) return noAsTold(-2);
        if (v < LEAST[what]) return noAsTold(-4);
        if (v > MOST[what]) return noAsTold(-6);
        int was = set[what];
        set[what] = v;
        return was;
    }

    private int days(int n) {
        if (n < 1) return no(-4);
        if ((long) now + n > 1000) return no(-6);
        for (int i = 0; i < n; i++) {
            growthThen.add(growth.clone());
            for (int minutes : slow.values()) lost += minutes * set[0];
            now++;
        }
        return now;
    }

    private int train(int start, int pace) {
        if (start < 0 || pace < 1) return no(-4);
        if (start > 1439 || pace > 9 || trains.size() == 24) return no(-6);
        trains.add(new int[] {start, pace});
        return trains.size() - 1;
    }

    private static boolean isWalk(int[] a) {
        return in(a[0], 0, 19) && in(a[1], a[0], 19);
    }

    private boolean safe(int a, int b, int minute) {
        for (int i = 0; a + i <= b; i++) {
            for (int[] train : trains) {
                int passes = train[0] + train[1] * (a + i);
                for (int m = -5; m < set[1] + 5; m++) {
                    if (minute + i * set[1] + m == passes) return false;
                }
            }
        }
        return true;
    }

    private int first(int a, int b, int minute) {
        for (int t = minute; t + (b - a + 1) * set[1] - 1 <= 1439; t++) {
            if (safe(a, b, t)) return t;
        }
        return -9;
    }

    private int walked(int[] a) {
        if (!isWalk(a)) return no(-1);
        for (int m = a[0]; m <= a[1]; m++) walked[m] = now;
        return a[1] - a[0] + 1;
    }

    private int risk(int mile) {
        int open = 0;
        for (int i = 0; i < defects.size(); i++) {
            if (!closed.contains(i) && defects.get(i).mile == mile) open++;
        }
        return (now - walked[mile]) * (1 + open);
    }

    private int walks(int n, int what) {
        if (!in(what, 0, 2)) return no(-2);
        if (n < 1) return no(-4);
        if (n > 10) return no(-6);
        int[] best = {-1, 0, 0};
        for (int i = 0; i < 20; i++) {
            for (int j = i + n; j + n <= 20; j++) {
                int sum = 0;
                for (int k = 0; k < n; k++) sum += risk(i + k) + risk(j + k);
                if (sum > best[0]) best = new int[] {sum, i, j};
            }
        }
        return best[what];
    }

    private int doubles(int[] a) {
        if (!in(a[0], 0, 19)) return no(-1);
        if (a[1] < 0 || a[2] < 0 || a[3] < 0) return no(-4);
        for (int i = 0; i < 3; i++) {
            if ((long) a[i + 1] + found[a[0]][i] > 99) return no(-6);
        }
        for (int i = 0; i < 3; i++) found[a[0]][i] += a[i + 1];
        return 1;
    }

    private int eyes(int mile, int what) {
        int[] f = found[mile];
        if (f[2] == 0) return -9;
        int all = 0;
        while (all * f[2] < (f[0] + f[2]) * (f[1] + f[2])) all++;
        return what == 0 ? all : all - f[0] - f[1] - f[2];
    }

    private int line(int mile, int yard, int side) {
        if (!in(mile, 0, 19)) return no(-1);
        if (yard < 0 || side < 0) return no(-4);
        if (yard > 1759 || side > 1 || lines.size() == 8) return no(-6);
        lines.add(new Place(mile, yard, side));
        return lines.size() - 1;
    }

    /** Line by line, over the defects that are taken: the most joins less their yards, then the least choices. */
    private final class Joiner {
        private final List<Integer> open = new ArrayList<>();
        private final Map<Integer, Integer> seen = new HashMap<>();

        Joiner() {
            for (int i = 0; i < defects.size() && open.size() < 12; i++) {
                if (!closed.contains(i)) open.add(i);
            }
        }

        private int gain(int line, int k) {
            Place l = lines.get(line);
            Defect d = defects.get(open.get(k));
            int apart = Math.abs(l.yard - d.yard);
            return l.mile == d.mile && l.side == d.side && apart <= set[2] ? 10000 - apart : -1;
        }

        private int best(int line, int taken) {
            if (line == lines.size()) return 0;
            Integer known = seen.get(line << 12 | taken);
            if (known != null) return known;
            int best = best(line + 1, taken);
            for (int k = 0; k < open.size(); k++) {
                if ((taken >> k & 1) == 0 && gain(line, k) > 0) {
                    best = Math.max(best, gain(line, k) + best(line + 1, taken | 1 << k));
                }
            }
            seen.put(line << 12 | taken, best);
            return best;
        }

        int told(int what) {
            int all = best(0, 0);
            int joined = (all + 9999) / 10000;
            return what == 0 ? joined : joined * 10000 - all;
        }

        int defectOf(int asked) {
            int taken = 0;
            for (int line = 0; line <= asked; line++) {
                int choice = -1;
                for (int k = 0; k < open.size() && choice < 0; k++) {
                    if ((taken >> k & 1) == 0 && gain(line, k) > 0
                            && gain(line, k) + best(line + 1, taken | 1 << k) == best(line, taken)) choice = k;
                }
                if (line == asked) return choice < 0 ? -9 : open.get(choice);
                if (choice >= 0) taken |= 1 << choice;
            }
            return -9;
        }
    }

    private int job(int hours, int due, int needs) {
        if (hours < 1 || due < 0 || needs < 0) return no(-4);
        if (hours > 40 || due > 400 || needs > 15 || jobs.size() == 8) return no(-6);
        jobs.add(new Job(hours, due, needs));
        return jobs.size() - 1;
    }

    private int gang(int gang, int has) {
        if (!in(gang, 0, 1)) return no(-1);
        if (has < 0) return no(-4);
        if (has > 15) return no(-6);
        int was = tools[gang];
        tools[gang] = has;
        return was;
    }

    /** What 0, 1: lateness; 2 and more: the gang of that job. */
    private int plan(int what) {
        int[] best = tryGangs(new int[jobs.size()], 0, null);
        return best == null ? -9 : best[what];
    }

    private int[] tryGangs(int[] gangs, int job, int[] best) {
        if (job == gangs.length) {
            int[] got = weigh(gangs);
            boolean better = best == null || got[0] < best[0] || got[0] == best[0] && got[1] < best[1];
            return better ? got : best;
        }
        for (int gang = 0; gang < 2; gang++) {
            if ((jobs.get(job).tools | tools[gang]) == tools[gang]) {
                gangs[job] = gang;
                best = tryGangs(gangs, job + 1, best);
            }
        }
        return best;
    }

    private int[] weigh(int[] gangs) {
        int[] got = new int[2 + gangs.length];
        for (int i = 0; i < gangs.length; i++) {
            got[2 + i] = gangs[i];
            int end = 0;
            for (int j = 0; j < gangs.length; j++) {
                boolean ahead = jobs.get(j).due < jobs.get(i).due || jobs.get(j).due == jobs.get(i).due && j <= i;
                if (gangs[j] == gangs[i] && ahead) end += jobs.get(j).hours;
            }
            int late = Math.max(0, end - jobs.get(i).due);
            got[0] = Math.max(got[0], late);
            got[1] += late;
        }
        return got;
    }

    private int rail(int mile, int what, int v) {
        if (!in(mile, 0, 19)) return noAsTold(-1);
        if (!in(what, 0, 1)) return noAsTold(-2);
        if (v < (what == 0 ? -30 : 0)) return noAsTold(-4);
        if (v > (what == 0 ? 50 : 5)) return noAsTold(-6);
        int[] row = what == 0 ? laid : lots;
        int was = row[mile];
        row[mile] = v;
        return was;
    }

    private int miles(int lot) {
        int n = 0;
        for (int l : lots) if (l == lot) n++;
        return n;
    }

    private int worst() {
        int worst = -9;
        double most = 0;
        for (int lot = 0; lot < 6; lot++) {
            // two different fractions of such small numbers lie farther apart than this
            if (miles(lot) > 0 && (double) cracks[lot] / miles(lot) > most + 1e-9) {
                worst = lot;
                most = (double) cracks[lot] / miles(lot);
            }
        }
        return worst;
    }

    private int sure() {
        int worst = worst();
        if (worst == -9) return 0;
        for (int lot = 0; lot < 6; lot++) {
            double twice = miles(lot) == 0 ? -1 : 2.0 * cracks[lot] / miles(lot);
            if (lot != worst && (double) cracks[worst] / miles(worst) < twice + 1e-9) return 0;
        }
        return 1;
    }

    private int count(int what) {
        int[] counts = {now, defects.size(), defects.size() - closed.size(), looks.size(), quarrels, rules.size(),
            slow.size(), trains.size(), lines.size(), jobs.size(), -9};
        return in(what, 0, 10) ? counts[what] : in(what, 11, 16) ? refusals[what - 10] : -9;
    }
}
