/**
 * A picker of tests: which of a program's tests to run when only minutes are left.
 *
 * All rows are made once, in the constructor, and no call makes an object after that.
 * Sets of TESTS are the bits of an int; sets of PARTS and of BUILDS are the bits of a long.
 */
public final class TestPicker {
    public static final int BAD = -1, FULL = -2, FINDING = -3, STATE = -4, SPENT = -6, NONE = -9;

    private static final int KIND_TEST = 0, KIND_SLOW = 1, KIND_CHAINED = 2, KIND_IDLE = 3;
    private static final int NOTHING = 1, BEYOND = 2, UNLIKE = 3, SIZE = 4;
    private static final int PASSED = 0, FELL = 1;

    private static final int MOST_TESTS = 20;
    private static final int MOST_BUILDS = 60;
    private static final int MOST_SOUGHT = 12;
    private static final int MOST_TIME = 1000;
    private static final int MOST_SPAN = 30000;
    private static final int REACH_BYTES = 5;
    private static final int PARTS = 40;
    private static final int SLOW_TIMES = 3;
    private static final int HEAT_BUILDS = 8;
    private static final int HEAT_BASE = 16;
    private static final int TOLD_LAST = 6;

    private final Tests tests;
    private final History history;
    private final Plan plan;
    private final Sets sets;
    private final int[] findingCounts;
    private int latestFinding;
    private long latestAnswer;

    public TestPicker() {
        tests = new Tests();
        history = new History();
        plan = new Plan();
        sets = new Sets();
        findingCounts = new int[SIZE + 1];
        latestFinding = 0;
        latestAnswer = 0L;
    }

    // ---- 1 tests

    public int test(int kind, int time, int need) {
        if (!isKind(kind) || time < 1 || time > MOST_TIME) {
            return BAD;
        }
        if (kind == KIND_CHAINED && !tests.has(need)) {
            return BAD;
        }
        if (tests.size >= MOST_TESTS) {
            return FULL;
        }
        return tests.add(kind, time, need);
    }

    public int turn(int test, int kind) {
        if (!tests.has(test) || !isKind(kind) || kind == KIND_CHAINED) {
            return BAD;
        }
        int old = tests.kinds[test];
        if (old == KIND_CHAINED) {
            return refuse(UNLIKE);
        }
        tests.kinds[test] = kind;
        return old;
    }

    public int reach(int test, int i, int b) {
        if (!tests.has(test) || b < 0 || b > 255) {
            return BAD;
        }
        if (tests.torn[test]) {
            return refuse(NOTHING);
        }
        if (!isPlace(i)) {
            return refuse(BEYOND);
        }
        int old = tests.reachByte(test, i);
        tests.setReachByte(test, i, b);
        return old;
    }

    public int byteOf(int test, int i) {
        if (!tests.has(test)) {
            return BAD;
        }
        if (tests.torn[test]) {
            return refuse(NOTHING);
        }
        if (!isPlace(i)) {
            return refuse(BEYOND);
        }
        return tests.reachByte(test, i);
    }

    public int tear(int test) {
        if (!tests.has(test)) {
            return BAD;
        }
        if (tests.torn[test]) {
            return refuse(NOTHING);
        }
        tests.torn[test] = true;
        tests.parts[test] = 0L;
        return 1;
    }

    public int anew(int test) {
        if (!tests.has(test)) {
            return BAD;
        }
        int wasThere = tests.torn[test] ? 0 : 1;
        tests.torn[test] = false;
        tests.parts[test] = 0L;
        return wasThere;
    }

    public int copy(int test, int i, int other, int j, int n) {
        if (!tests.has(test) || !tests.has(other)) {
            return BAD;
        }
        if (n < 0) {
            return refuse(SIZE);
        }
        if (tests.torn[test] || tests.torn[other]) {
            return refuse(NOTHING);
        }
        if (!isStretch(i, n) || !isStretch(j, n)) {
            return refuse(BEYOND);
        }
        tests.copyBytes(test, i, other, j, n);
        return 1;
    }

    public int told(int test, int what) {
        if (!tests.has(test) || what < 0 || what > TOLD_LAST) {
            return BAD;
        }
        return factOf(test, what);
    }

    public int time(int test, int kind) {
        if (!tests.has(test) || !isKind(kind)) {
            return BAD;
        }
        if (kind != KIND_TEST && kind != tests.kinds[test]) {
            return refuse(UNLIKE);
        }
        return tests.ownTimes[test];
    }

    // ---- 2 builds

    public int build(long change) {
        if ((change >>> PARTS) != 0L) {
            return BAD;
        }
        if (history.size >= MOST_BUILDS) {
            return FULL;
        }
        plan.drop();
        return history.add(change);
    }

    public int verdict(int test, boolean fell) {
        if (!tests.has(test)) {
            return BAD;
        }
        if (history.size == 0) {
            return STATE;
        }
        int old = history.verdictIn(test, history.size - 1);
        history.judge(test, fell);
        return old == NONE ? 0 : 1;
    }

    public int was(int test, int build) {
        if (!tests.has(test) || !history.has(build)) {
            return BAD;
        }
        return history.verdictIn(test, build);
    }

    public int change(int build) {
        if (!history.has(build)) {
            return BAD;
        }
        latestAnswer = history.changes[build];
        return 1;
    }

    public int often(int test, int what) {
        if (!tests.has(test) || what < 0 || what > 2) {
            return BAD;
        }
        int fell = Long.bitCount(history.fellIn[test]);
        int passed = Long.bitCount(history.passedIn[test]);
        if (what == 0) {
            return fell;
        }
        return what == 1 ? passed : history.size - fell - passed;
    }

    // ---- 3 picking

    public int pick(int time) {
        if (!isSpan(time)) {
            return BAD;
        }
        if (history.size == 0) {
            return STATE;
        }
        plan.begin(history.presentChange());
        int allowed = tests.pickable();
        // Each round takes one TEST at least, so there are never more rounds than TESTS.
        for (int round = 0; round < tests.size; round++) {
            int next = worthiest(allowed & ~plan.bits, time - plan.span);
            if (next == NONE) {
                break;
            }
            takeChain(next);
        }
        return plan.size;
    }

    public int picked(int i) {
        if (!plan.there || i < 0 || i >= plan.size) {
            return NONE;
        }
        return plan.row[i];
    }

    public int about(int what) {
        if (what < 0 || what > 2) {
            return BAD;
        }
        if (!plan.there) {
            return NONE;
        }
        if (what == 0) {
            return plan.span;
        }
        return what == 1 ? plan.partsSeen() : plan.bits;
    }

    public int best(int time) {
        if (!isSpan(time)) {
            return BAD;
        }
        if (history.size == 0) {
            return STATE;
        }
        int allowed = tests.pickable();
        if (Integer.bitCount(allowed) > MOST_SOUGHT) {
            return SPENT;
        }
        long change = history.presentChange();
        sets.begin();
        for (int t = 0; t < tests.size; t++) {
            if (isIn(t, allowed)) {
                sets.add(1 << t, tests.chains[t], tests.countedTime(t), tests.parts[t] & change);
            }
        }
        sets.seekWidest(time);
        latestAnswer = sets.foundBits;
        return Long.bitCount(sets.foundCover);
    }

    public int run(int falling) {
        if (!tests.hasAll(falling)) {
            return BAD;
        }
        if (!plan.there) {
            return STATE;
        }
        int fallen = 0;
        int verdicts = 0;
        for (int i = 0; i < plan.size; i++) {
            int t = plan.row[i];
            if ((tests.chains[t] & fallen) == 0) {
                boolean falls = isIn(t, falling);
                history.judge(t, falls);
                verdicts++;
                fallen |= falls ? 1 << t : 0;
            }
        }
        return verdicts;
    }

    public int suspects() {
        if (history.size == 0) {
            return STATE;
        }
        int present = history.size - 1;
        long accused = 0L;
        long cleared = 0L;
        for (int t = 0; t < tests.size; t++) {
            int verdict = history.verdictIn(t, present);
            if (verdict == PASSED) {
                cleared |= tests.parts[t];
            } else if (verdict == FELL && !isFlaky(t)) {
                accused |= tests.parts[t];
            }
        }
        latestAnswer = accused & ~cleared & history.presentChange();
        return Long.bitCount(latestAnswer);
    }

    public int badWork() {
        if (history.size == 0) {
            return STATE;
        }
        int present = history.size - 1;
        for (int t = 0; t < tests.size; t++) {
            if (history.verdictIn(t, present) == FELL && !isFlaky(t)) {
                return 1;
            }
        }
        return 0;
    }

    public int fewest() {
        int witnesses = witnesses();
        if (Integer.bitCount(witnesses) > MOST_SOUGHT) {
            return SPENT;
        }
        sets.begin();
        for (int t = 0; t < tests.size; t++) {
            if (isIn(t, witnesses)) {
                sets.add(1 << t, tests.chains[t], tests.countedTime(t), history.fellIn[t]);
            }
        }
        sets.seekFewest(buildsShown(witnesses));
        latestAnswer = sets.foundBits;
        return Integer.bitCount(sets.foundBits);
    }

    public int missed(int set) {
        if (!tests.hasAll(set)) {
            return BAD;
        }
        long unseen = buildsShown(witnesses()) & ~buildsShown(set);
        return unseen == 0L ? NONE : Long.numberOfTrailingZeros(unseen);
    }

    // ---- 4 what is told

    public long asked() {
        return latestAnswer;
    }

    public int count(int what) {
        if (what == 0) {
            return tests.size;
        }
        if (what == 1) {
            return history.size;
        }
        return what == 2 ? history.verdictsInAll() : BAD;
    }

    public int finding() {
        return latestFinding;
    }

    public int findings(int f) {
        return f < NOTHING || f > SIZE ? BAD : findingCounts[f];
    }

    public long digest() {
        long h = 17L;
        for (int t = 0; t < tests.size; t++) {
            h = digestOfTest(h, t);
        }
        for (int b = 0; b < history.size; b++) {
            h = 31L * h + history.changes[b];
            for (int t = 0; t < tests.size; t++) {
                h = 31L * h + history.verdictIn(t, b);
            }
        }
        return h;
    }

    // ---- helpers

    private static boolean isKind(int kind) {
        return kind >= KIND_TEST && kind <= KIND_IDLE;
    }

    private static boolean isPlace(int i) {
        return i >= 0 && i < REACH_BYTES;
    }

    /** The sum i + n could wrap around; the difference cannot. */
    private static boolean isStretch(int i, int n) {
        return i >= 0 && i <= REACH_BYTES && n <= REACH_BYTES - i;
    }

    private static boolean isSpan(int time) {
        return time >= 0 && time <= MOST_SPAN;
    }

    private static boolean isIn(int test, int set) {
        return ((set >>> test) & 1) == 1;
    }

    private int refuse(int found) {
        latestFinding = found;
        findingCounts[found]++;
        return FINDING;
    }

    private boolean isFlaky(int test) {
        return history.wavers(test, tests.parts[test]);
    }

    private int factOf(int test, int what) {
        switch (what) {
            case 0:
                return tests.kinds[test];
            case 1:
                return tests.countedTime(test);
            case 2:
                return tests.needs[test];
            case 3:
                return history.heat(test);
            case 4:
                return isFlaky(test) ? 1 : 0;
            case 5:
                return history.fellLast(test) && !isFlaky(test) ? 1 : 0;
            default:
                return Integer.bitCount(tests.chains[test]);
        }
    }

    private long digestOfTest(long start, int test) {
        long h = start;
        for (int what = 0; what <= TOLD_LAST; what++) {
            h = 31L * h + factOf(test, what);
        }
        if (tests.torn[test]) {
            return 31L * h - 1L;
        }
        for (int i = 0; i < REACH_BYTES; i++) {
            h = 31L * h + tests.reachByte(test, i);
        }
        return h;
    }

    /** Of the candidates the one with the greatest GAIN by COST within what is left; NONE if there is none. */
    private int worthiest(int candidates, int left) {
        int chosen = NONE;
        long chosenGain = 0L;
        long chosenCost = 1L;
        for (int t = 0; t < tests.size; t++) {
            if (isIn(t, candidates)) {
                int fresh = tests.chains[t] & ~plan.bits;
                long cost = tests.timeOf(fresh);
                long unseen = tests.partsOf(fresh) & plan.change & ~plan.seen;
                long gain = (long) Long.bitCount(unseen) * (HEAT_BASE + history.heat(t));
                // Fractions are compared crosswise, so that nothing is rounded.
                if (cost <= left && gain * chosenCost > chosenGain * cost) {
                    chosen = t;
                    chosenGain = gain;
                    chosenCost = cost;
                }
            }
        }
        return chosen;
    }

    /** What is NEEDED has a lower number than what NEEDS it, so it comes ahead here. */
    private void takeChain(int test) {
        int fresh = tests.chains[test] & ~plan.bits;
        for (int t = 0; t < tests.size; t++) {
            if (isIn(t, fresh)) {
                plan.take(t, tests.countedTime(t), tests.parts[t]);
            }
        }
    }

    /** The TESTS whose falling counts as a real break: not IDLE, not FLAKY, fell at least once. */
    private int witnesses() {
        int set = 0;
        for (int t = 0; t < tests.size; t++) {
            if (tests.kinds[t] != KIND_IDLE && history.fellIn[t] != 0L && !isFlaky(t)) {
                set |= 1 << t;
            }
        }
        return set;
    }

    /** The BUILDS in which one of a set of TESTS fell. */
    private long buildsShown(int set) {
        long shown = 0L;
        for (int t = 0; t < tests.size; t++) {
            if (isIn(t, set)) {
                shown |= history.fellIn[t];
            }
        }
        return shown;
    }

    /** The TESTS, a row for each thing that is known of them. */
    private static final class Tests {
        final int[] kinds = new int[MOST_TESTS];
        final int[] ownTimes = new int[MOST_TESTS];
        final int[] needs = new int[MOST_TESTS];
        /** A CHAIN never changes: a CHAINED TEST stays one, and what it NEEDS was there before it. */
        final int[] chains = new int[MOST_TESTS];
        /** No PARTS while the REACH is missing, so that it need not be asked for everywhere. */
        final long[] parts = new long[MOST_TESTS];
        final boolean[] torn = new boolean[MOST_TESTS];
        int size = 0;

        boolean has(int test) {
            return test >= 0 && test < size;
        }

        boolean hasAll(int set) {
            return (set >>> size) == 0;
        }

        int add(int kind, int ownTime, int need) {
            boolean chained = kind == KIND_CHAINED;
            kinds[size] = kind;
            ownTimes[size] = ownTime;
            needs[size] = chained ? need : NONE;
            chains[size] = (1 << size) | (chained ? chains[need] : 0);
            size++;
            return size - 1;
        }

        int countedTime(int test) {
            return kinds[test] == KIND_SLOW ? SLOW_TIMES * ownTimes[test] : ownTimes[test];
        }

        int reachByte(int test, int i) {
            return (int) ((parts[test] >>> (8 * i)) & 255L);
        }

        void setReachByte(int test, int i, int b) {
            parts[test] = (parts[test] & ~(255L << (8 * i))) | ((long) b << (8 * i));
        }

        void copyBytes(int test, int i, int other, int j, int n) {
            long mask = (1L << (8 * n)) - 1L;
            long piece = (parts[test] >>> (8 * i)) & mask;
            parts[other] = (parts[other] & ~(mask << (8 * j))) | (piece << (8 * j));
        }

        int timeOf(int set) {
            int sum = 0;
            for (int t = 0; t < size; t++) {
                sum += isIn(t, set) ? countedTime(t) : 0;
            }
            return sum;
        }

        long partsOf(int set) {
            long all = 0L;
            for (int t = 0; t < size; t++) {
                all |= isIn(t, set) ? parts[t] : 0L;
            }
            return all;
        }

        /** The TESTS that may be picked: no IDLE one and no missing REACH in their CHAINS. */
        int pickable() {
            int barred = 0;
            for (int t = 0; t < size; t++) {
                barred |= kinds[t] == KIND_IDLE || torn[t] ? 1 << t : 0;
            }
            int allowed = 0;
            for (int t = 0; t < size; t++) {
                allowed |= (chains[t] & barred) == 0 ? 1 << t : 0;
            }
            return allowed;
        }
    }

    /** The BUILDS, and for each TEST in which of them it fell and in which it passed. */
    private static final class History {
        final long[] changes = new long[MOST_BUILDS];
        final long[] fellIn = new long[MOST_TESTS];
        final long[] passedIn = new long[MOST_TESTS];
        int size = 0;

        boolean has(int build) {
            return build >= 0 && build < size;
        }

        int add(long change) {
            changes[size] = change;
            size++;
            return size - 1;
        }

        long presentChange() {
            return size > 0 ? changes[size - 1] : 0L;
        }

        int verdictIn(int test, int build) {
            if (((fellIn[test] >>> build) & 1L) == 1L) {
                return FELL;
            }
            return ((passedIn[test] >>> build) & 1L) == 1L ? PASSED : NONE;
        }

        /** Called only when there is a BUILD. */
        void judge(int test, boolean fell) {
            long present = 1L << (size - 1);
            fellIn[test] = fell ? fellIn[test] | present : fellIn[test] & ~present;
            passedIn[test] = fell ? passedIn[test] & ~present : passedIn[test] | present;
        }

        /** The 8 BUILDS ahead of the PRESENT one, as bits, are the HEAT: the nearest is the highest. */
        int heat(int test) {
            int present = size - 1;
            if (present < 1) {
                return 0;
            }
            long recent = present >= HEAT_BUILDS
                    ? fellIn[test] >>> (present - HEAT_BUILDS)
                    : fellIn[test] << (HEAT_BUILDS - present);
            return (int) (recent & 255L);
        }

        /** Whether two VERDICTS that follow one another are unlike with no change of the parts reached. */
        boolean wavers(int test, long reached) {
            int last = NONE;
            long changed = 0L;
            for (int b = 0; b < size; b++) {
                changed |= changes[b];
                int now = verdictIn(test, b);
                if (now != NONE) {
                    if (last != NONE && last != now && (changed & reached) == 0L) {
                        return true;
                    }
                    last = now;
                    changed = 0L;
                }
            }
            return false;
        }

        /** No BUILD is in both sets, so the set with the later BUILD is the greater number. */
        boolean fellLast(int test) {
            return fellIn[test] > passedIn[test];
        }

        int verdictsInAll() {
            int sum = 0;
            for (int t = 0; t < MOST_TESTS; t++) {
                sum += Long.bitCount(fellIn[t]) + Long.bitCount(passedIn[t]);
            }
            return sum;
        }
    }

    /** THE PICK as pick() found it; what becomes of its TESTS later does not change it. */
    private static final class Plan {
        final int[] row = new int[MOST_TESTS];
        int size = 0;
        int bits = 0;
        int span = 0;
        long seen = 0L;
        long change = 0L;
        boolean there = false;

        void drop() {
            there = false;
            size = 0;
            bits = 0;
            span = 0;
            seen = 0L;
            change = 0L;
        }

        void begin(long presentChange) {
            drop();
            there = true;
            change = presentChange;
        }

        void take(int test, int countedTime, long parts) {
            if (size < MOST_TESTS) {
                row[size] = test;
                size++;
                bits |= 1 << test;
                span += countedTime;
                seen |= parts;
            }
        }

        int partsSeen() {
            return Long.bitCount(seen & change);
        }
    }

    /**
     * A search through all sets of at most twelve TESTS, in the order of their bits: of two sets that
     * are equally good the first one met has the least bits.
     */
    private static final class Sets {
        final int[] testBits = new int[MOST_SOUGHT];
        final int[] chains = new int[MOST_SOUGHT];
        final int[] times = new int[MOST_SOUGHT];
        final long[] covers = new long[MOST_SOUGHT];
        int size = 0;

        /**
         * At p: what the members of the set at hand from place p on come to, p being its lowest.
         * The last place is for no members and stays as it is.
         */
        final int[] bitsFrom = new int[MOST_SOUGHT + 1];
        final int[] chainsFrom = new int[MOST_SOUGHT + 1];
        final int[] timeFrom = new int[MOST_SOUGHT + 1];
        final long[] coverFrom = new long[MOST_SOUGHT + 1];

        int foundBits = 0;
        int foundTime = 0;
        long foundCover = 0L;

        void begin() {
            size = 0;
            foundBits = 0;
            foundTime = 0;
            foundCover = 0L;
        }

        void add(int testBit, int chain, int time, long cover) {
            if (size < MOST_SOUGHT) {
                testBits[size] = testBit;
                chains[size] = chain;
                times[size] = time;
                covers[size] = cover;
                size++;
            }
        }

        /**
         * Sums up a set (not the empty one) and answers its lowest place. The set without its lowest
         * member came before it, and nothing has been written at that one's place since.
         */
        int sumUp(int set) {
            int p = Math.min(Integer.numberOfTrailingZeros(set), MOST_SOUGHT - 1);
            int rest = Math.min(Integer.numberOfTrailingZeros(set & (set - 1)), MOST_SOUGHT);
            bitsFrom[p] = bitsFrom[rest] | testBits[p];
            chainsFrom[p] = chainsFrom[rest] | chains[p];
            timeFrom[p] = timeFrom[rest] + times[p];
            coverFrom[p] = coverFrom[rest] | covers[p];
            return p;
        }

        void keep(int p) {
            foundBits = bitsFrom[p];
            foundTime = timeFrom[p];
            foundCover = coverFrom[p];
        }

        /** The set that covers most within a time, with all its CHAINS; then the least time. */
        void seekWidest(int most) {
            int end = 1 << size;
            int set = 1;
            while (set < end) {
                int p = sumUp(set);
                if (timeFrom[p] > most) {
                    // Every set up to there holds this one, and takes longer still.
                    set += 1 << p;
                } else {
                    if (chainsFrom[p] == bitsFrom[p] && isWider(p)) {
                        keep(p);
                    }
                    set++;
                }
            }
        }

        boolean isWider(int p) {
            int more = Long.bitCount(coverFrom[p]) - Long.bitCount(foundCover);
            return more > 0 || (more == 0 && timeFrom[p] < foundTime);
        }

        /** The set of fewest that covers a goal, which all of them together do; then the least time. */
        void seekFewest(long goal) {
            int end = goal == 0L ? 0 : 1 << size;
            int fewestYet = MOST_SOUGHT + 1;
            int set = 1;
            while (set < end) {
                int p = sumUp(set);
                int members = Integer.bitCount(set);
                boolean covering = coverFrom[p] == goal;
                boolean fewer = members < fewestYet || (members == fewestYet && timeFrom[p] < foundTime);
                if (covering && fewer) {
                    fewestYet = members;
                    keep(p);
                }
                // Up to there every set holds this one and has more members, so none of them is better.
                set += covering || members >= fewestYet ? 1 << p : 1;
            }
        }
    }
}
