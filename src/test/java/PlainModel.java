import java.util.ArrayList;
import java.util.List;
import java.util.Set;
import java.util.TreeSet;

/**
 * The document said once more in the slowest and plainest way, with sets of numbers instead of bits, to
 * hold TestPicker's answers against. It shares no code and no way of counting with TestPicker.
 */
final class PlainModel {
    private static final int BAD = -1, FULL = -2, FINDING = -3, STATE = -4, SPENT = -6, NONE = -9;

    private static final class Case {
        int kind;
        int time;
        int need = NONE;
        int[] bytes = new int[5];
        Boolean[] verdicts = new Boolean[60];
    }

    private final List<Case> cases = new ArrayList<>();
    private final List<Set<Integer>> builds = new ArrayList<>();
    private final int[] found = new int[5];
    private int latest = 0;
    private long answer = 0;
    private List<Integer> pick = null;
    private int pickTime = 0;
    private int pickParts = 0;

    // ---- 1 tests

    int test(int kind, int time, int need) {
        boolean bad = kind < 0 || kind > 3 || time < 1 || time > 1000;
        if (bad || kind == 2 && isNoCase(need)) {
            return BAD;
        }
        if (cases.size() == 20) {
            return FULL;
        }
        Case made = new Case();
        made.kind = kind;
        made.time = time;
        made.need = kind == 2 ? need : NONE;
        cases.add(made);
        return cases.size() - 1;
    }

    int turn(int test, int kind) {
        if (isNoCase(test) || kind != 0 && kind != 1 && kind != 3) {
            return BAD;
        }
        Case it = cases.get(test);
        if (it.kind == 2) {
            return find(3);
        }
        int old = it.kind;
        it.kind = kind;
        return old;
    }

    int reach(int test, int i, int b) {
        if (isNoCase(test) || b < 0 || b > 255) {
            return BAD;
        }
        int[] bytes = cases.get(test).bytes;
        if (bytes == null) {
            return find(1);
        }
        if (i < 0 || i > 4) {
            return find(2);
        }
        int old = bytes[i];
        bytes[i] = b;
        return old;
    }

    int byteOf(int test, int i) {
        if (isNoCase(test)) {
            return BAD;
        }
        int[] bytes = cases.get(test).bytes;
        if (bytes == null) {
            return find(1);
        }
        return i < 0 || i > 4 ? find(2) : bytes[i];
    }

    int tear(int test) {
        if (isNoCase(test)) {
            return BAD;
        }
        if (cases.get(test).bytes == null) {
            return find(1);
        }
        cases.get(test).bytes = null;
        return 1;
    }

    int anew(int test) {
        if (isNoCase(test)) {
            return BAD;
        }
        int old = cases.get(test).bytes == null ? 0 : 1;
        cases.get(test).bytes = new int[5];
        return old;
    }

    int copy(int test, int i, int other, int j, int n) {
        if (isNoCase(test) || isNoCase(other)) {
            return BAD;
        }
        if (n < 0) {
            return find(4);
        }
        int[] from = cases.get(test).bytes;
        int[] to = cases.get(other).bytes;
        if (from == null || to == null) {
            return find(1);
        }
        if (i < 0 || j < 0 || (long) i + n > 5 || (long) j + n > 5) {
            return find(2);
        }
        int[] taken = from.clone();
        for (int k = 0; k < n; k++) {
            to[j + k] = taken[i + k];
        }
        return 1;
    }

    int told(int test, int what) {
        if (isNoCase(test)) {
            return BAD;
        }
        return switch (what) {
            case 0 -> cases.get(test).kind;
            case 1 -> timeOf(test);
            case 2 -> cases.get(test).need;
            case 3 -> heat(test);
            case 4 -> flaky(test) ? 1 : 0;
            case 5 -> broken(test) ? 1 : 0;
            case 6 -> chain(test).size();
            default -> BAD;
        };
    }

    int time(int test, int kind) {
        if (isNoCase(test) || kind < 0 || kind > 3) {
            return BAD;
        }
        return kind == 0 || kind == cases.get(test).kind ? cases.get(test).time : find(3);
    }

    // ---- 2 builds

    int build(long change) {
        Set<Integer> parts = new TreeSet<>();
        for (int p = 0; p < 64; p++) {
            if ((change & 1L << p) != 0) {
                if (p > 39) {
                    return BAD;
                }
                parts.add(p);
            }
        }
        if (builds.size() == 60) {
            return FULL;
        }
        builds.add(parts);
        pick = null;
        return builds.size() - 1;
    }

    int verdict(int test, boolean fell) {
        if (isNoCase(test)) {
            return BAD;
        }
        if (builds.isEmpty()) {
            return STATE;
        }
        Boolean[] verdicts = cases.get(test).verdicts;
        int old = verdicts[present()] == null ? 0 : 1;
        verdicts[present()] = fell;
        return old;
    }

    int was(int test, int build) {
        if (isNoCase(test) || build < 0 || build >= builds.size()) {
            return BAD;
        }
        Boolean verdict = cases.get(test).verdicts[build];
        return verdict == null ? NONE : verdict ? 1 : 0;
    }

    int change(int build) {
        if (build < 0 || build >= builds.size()) {
            return BAD;
        }
        answer = bitsOf(builds.get(build));
        return 1;
    }

    int often(int test, int what) {
        if (isNoCase(test) || what < 0 || what > 2) {
            return BAD;
        }
        int wanted = what == 0 ? 1 : what == 1 ? 0 : NONE;
        int times = 0;
        for (int b = 0; b < builds.size(); b++) {
            times += was(test, b) == wanted ? 1 : 0;
        }
        return times;
    }

    // ---- 3 picking

    int pick(int time) {
        if (time < 0 || time > 30000) {
            return BAD;
        }
        if (builds.isEmpty()) {
            return STATE;
        }
        pick = new ArrayList<>();
        pickTime = 0;
        Set<Integer> seen = new TreeSet<>();
        while (true) {
            int next = next(time - pickTime, seen);
            if (next == NONE) {
                break;
            }
            for (int t : unpicked(next)) {
                pick.add(t);
                pickTime += timeOf(t);
                seen.addAll(parts(t));
            }
        }
        seen.retainAll(builds.get(present()));
        pickParts = seen.size();
        return pick.size();
    }

    private int next(int left, Set<Integer> seen) {
        int chosen = NONE;
        long gainOfChosen = 0;
        long costOfChosen = 0;
        for (int t : pickable()) {
            if (pick.contains(t)) {
                continue;
            }
            Set<Integer> fresh = new TreeSet<>();
            long cost = 0;
            for (int of : unpicked(t)) {
                cost += timeOf(of);
                fresh.addAll(parts(of));
            }
            fresh.retainAll(builds.get(present()));
            fresh.removeAll(seen);
            long gain = (long) fresh.size() * (16 + heat(t));
            if (gain == 0 || cost > left) {
                continue;
            }
            if (chosen == NONE || gain * costOfChosen > gainOfChosen * cost) {
                chosen = t;
                gainOfChosen = gain;
                costOfChosen = cost;
            }
        }
        return chosen;
    }

    private List<Integer> unpicked(int test) {
        List<Integer> row = chain(test);
        row.removeAll(pick);
        return row;
    }

    int picked(int i) {
        return pick == null || i < 0 || i >= pick.size() ? NONE : pick.get(i);
    }

    int about(int what) {
        if (what < 0 || what > 2) {
            return BAD;
        }
        if (pick == null) {
            return NONE;
        }
        return what == 0 ? pickTime : what == 1 ? pickParts : (int) bitsOf(pick);
    }

    int best(int time) {
        if (time < 0 || time > 30000) {
            return BAD;
        }
        if (builds.isEmpty()) {
            return STATE;
        }
        List<Integer> from = pickable();
        if (from.size() > 12) {
            return SPENT;
        }
        long[] bestYet = null;
        for (int choice = 0; choice < 1 << from.size(); choice++) {
            List<Integer> set = chosen(from, choice);
            if (hasAllChains(set) && timeOfAll(set) <= time) {
                bestYet = lesser(bestYet, new long[] {-changedParts(set), timeOfAll(set), bitsOf(set)});
            }
        }
        answer = bestYet[2];
        return (int) -bestYet[0];
    }

    int run(int falling) {
        if (hasStrangers(falling)) {
            return BAD;
        }
        if (pick == null) {
            return STATE;
        }
        Set<Integer> fallen = new TreeSet<>();
        int came = 0;
        for (int t : pick) {
            List<Integer> needed = chain(t);
            needed.retainAll(fallen);
            if (needed.isEmpty()) {
                boolean falls = (falling & 1 << t) != 0;
                cases.get(t).verdicts[present()] = falls;
                came++;
                if (falls) {
                    fallen.add(t);
                }
            }
        }
        return came;
    }

    int suspects() {
        if (builds.isEmpty()) {
            return STATE;
        }
        Set<Integer> suspect = new TreeSet<>();
        for (int part : builds.get(present())) {
            boolean shown = false;
            boolean cleared = false;
            for (int t = 0; t < cases.size(); t++) {
                if (parts(t).contains(part)) {
                    shown |= was(t, present()) == 1 && !flaky(t);
                    cleared |= was(t, present()) == 0;
                }
            }
            if (shown && !cleared) {
                suspect.add(part);
            }
        }
        answer = bitsOf(suspect);
        return suspect.size();
    }

    int badWork() {
        if (builds.isEmpty()) {
            return STATE;
        }
        int bad = 0;
        for (int t = 0; t < cases.size(); t++) {
            bad |= was(t, present()) == 1 && !flaky(t) ? 1 : 0;
        }
        return bad;
    }

    int fewest() {
        List<Integer> from = new ArrayList<>();
        for (int t = 0; t < cases.size(); t++) {
            if (isOfNote(t) && often(t, 0) > 0) {
                from.add(t);
            }
        }
        if (from.size() > 12) {
            return SPENT;
        }
        Set<Integer> goal = fallenBuilds(from);
        long[] bestYet = null;
        for (int choice = 0; choice < 1 << from.size(); choice++) {
            List<Integer> set = chosen(from, choice);
            if (fallenBuilds(set).equals(goal)) {
                bestYet = lesser(bestYet, new long[] {set.size(), timeOfAll(set), bitsOf(set)});
            }
        }
        answer = bestYet[2];
        return (int) bestYet[0];
    }

    int missed(int set) {
        if (hasStrangers(set)) {
            return BAD;
        }
        for (int b = 0; b < builds.size(); b++) {
            boolean broke = false;
            boolean shown = false;
            for (int t = 0; t < cases.size(); t++) {
                broke |= was(t, b) == 1 && isOfNote(t);
                shown |= was(t, b) == 1 && (set & 1 << t) != 0;
            }
            if (broke && !shown) {
                return b;
            }
        }
        return NONE;
    }

    // ---- 4 what is told

    long asked() {
        return answer;
    }

    int count(int what) {
        if (what == 2) {
            int sum = 0;
            for (int t = 0; t < cases.size(); t++) {
                sum += often(t, 0) + often(t, 1);
            }
            return sum;
        }
        return what == 0 ? cases.size() : what == 1 ? builds.size() : BAD;
    }

    int finding() {
        return latest;
    }

    int findings(int f) {
        return f < 1 || f > 4 ? BAD : found[f];
    }

    long digest() {
        List<Long> row = new ArrayList<>();
        for (int t = 0; t < cases.size(); t++) {
            for (int what = 0; what <= 6; what++) {
                row.add((long) told(t, what));
            }
            if (cases.get(t).bytes == null) {
                row.add(-1L);
            } else {
                for (int b : cases.get(t).bytes) {
                    row.add((long) b);
                }
            }
        }
        for (int b = 0; b < builds.size(); b++) {
            row.add(bitsOf(builds.get(b)));
            for (int t = 0; t < cases.size(); t++) {
                row.add((long) was(t, b));
            }
        }
        long h = 17;
        for (long v : row) {
            h = 31 * h + v;
        }
        return h;
    }

    // ---- terms

    private boolean isNoCase(int test) {
        return test < 0 || test >= cases.size();
    }

    private boolean hasStrangers(int set) {
        for (int t = 0; t < 32; t++) {
            if ((set & 1 << t) != 0 && t >= cases.size()) {
                return true;
            }
        }
        return false;
    }

    private int find(int f) {
        latest = f;
        found[f]++;
        return FINDING;
    }

    private int present() {
        return builds.size() - 1;
    }

    private int timeOf(int test) {
        return cases.get(test).kind == 1 ? 3 * cases.get(test).time : cases.get(test).time;
    }

    private long timeOfAll(List<Integer> set) {
        long sum = 0;
        for (int t : set) {
            sum += timeOf(t);
        }
        return sum;
    }

    /** What is NEEDED ahead. */
    private List<Integer> chain(int test) {
        List<Integer> row = new ArrayList<>();
        for (int t = test; t != NONE; t = cases.get(t).need) {
            row.add(0, t);
        }
        return row;
    }

    private boolean hasAllChains(List<Integer> set) {
        for (int t : set) {
            if (!set.containsAll(chain(t))) {
                return false;
            }
        }
        return true;
    }

    private Set<Integer> parts(int test) {
        Set<Integer> parts = new TreeSet<>();
        int[] bytes = cases.get(test).bytes;
        for (int p = 0; bytes != null && p < 40; p++) {
            if ((bytes[p / 8] & 1 << p % 8) != 0) {
                parts.add(p);
            }
        }
        return parts;
    }

    private int changedParts(List<Integer> set) {
        Set<Integer> all = new TreeSet<>();
        for (int t : set) {
            all.addAll(parts(t));
        }
        all.retainAll(builds.get(present()));
        return all.size();
    }

    private int heat(int test) {
        int heat = 0;
        for (int ago = 1; ago <= 8; ago++) {
            int b = present() - ago;
            if (b >= 0 && was(test, b) == 1) {
                heat += (int) Math.pow(2, 8 - ago);
            }
        }
        return heat;
    }

    private boolean flaky(int test) {
        for (int i = 0; i < builds.size(); i++) {
            for (int j = i + 1; was(test, i) >= 0 && j < builds.size(); j++) {
                if (was(test, j) >= 0) {
                    if (was(test, j) != was(test, i) && !isChanged(test, i, j)) {
                        return true;
                    }
                    break;
                }
            }
        }
        return false;
    }

    private boolean isChanged(int test, int behind, int upTo) {
        for (int b = behind + 1; b <= upTo; b++) {
            Set<Integer> both = parts(test);
            both.retainAll(builds.get(b));
            if (!both.isEmpty()) {
                return true;
            }
        }
        return false;
    }

    private boolean broken(int test) {
        int last = NONE;
        for (int b = 0; b < builds.size(); b++) {
            last = was(test, b) == NONE ? last : was(test, b);
        }
        return last == 1 && !flaky(test);
    }

    private boolean isOfNote(int test) {
        return cases.get(test).kind != 3 && !flaky(test);
    }

    private List<Integer> pickable() {
        List<Integer> row = new ArrayList<>();
        for (int t = 0; t < cases.size(); t++) {
            boolean may = true;
            for (int of : chain(t)) {
                may &= cases.get(of).kind != 3 && cases.get(of).bytes != null;
            }
            if (may) {
                row.add(t);
            }
        }
        return row;
    }

    private Set<Integer> fallenBuilds(List<Integer> set) {
        Set<Integer> all = new TreeSet<>();
        for (int t : set) {
            for (int b = 0; b < builds.size(); b++) {
                if (was(t, b) == 1) {
                    all.add(b);
                }
            }
        }
        return all;
    }

    private static List<Integer> chosen(List<Integer> from, int choice) {
        List<Integer> set = new ArrayList<>();
        for (int k = 0; k < from.size(); k++) {
            if ((choice & 1 << k) != 0) {
                set.add(from.get(k));
            }
        }
        return set;
    }

    private static long[] lesser(long[] a, long[] b) {
        return a == null || java.util.Arrays.compare(b, a) < 0 ? b : a;
    }

    private static long bitsOf(Iterable<Integer> set) {
        long bits = 0;
        for (int k : set) {
            bits |= 1L << k;
        }
        return bits;
    }
}
