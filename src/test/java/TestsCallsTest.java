/** Promises 1 to 10, sentence by sentence, at their boundaries. */
public final class TestsCallsTest extends Sentences {
    public static void main(String[] args) throws IllegalAccessException {
        new TestsCallsTest().testAll();
    }

    /** 0 a TEST, 1 a SLOW one, 2 a CHAINED one that NEEDS 0, 3 an IDLE one. */
    private static TestPicker oneOfEachKind() {
        TestPicker x = new TestPicker();
        for (int kind = 0; kind < 4; kind++) {
            x.test(kind, 10 + kind, 0);
        }
        return x;
    }

    // ---- 1 a new object

    @Says("No TESTS, no BUILDS.")
    void p01Empty() {
        TestPicker x = new TestPicker();
        due("TESTS", x.count(0), 0);
        due("BUILDS", x.count(1), 0);
        due("VERDICTS", x.count(2), 0);
        due("TEST 0", x.told(0, 0), BAD);
        due("BUILD 0", x.change(0), BAD);
        due("picked", x.picked(0), NONE);
        due("about", x.about(0), NONE);
        due("finding", x.finding(), 0);
        due("asked", x.asked(), 0);
        due("digest", x.digest(), 17);
    }

    @Says("No TESTS, no BUILDS.")
    void p01EachObjectForItself() {
        TestPicker x = plain(1);
        x.build(1);
        x.byteOf(0, 5);
        x.change(0);
        TestPicker y = new TestPicker();
        due("TESTS", y.count(0), 0);
        due("BUILDS", y.count(1), 0);
        due("findings", y.findings(2), 0);
        due("asked", y.asked(), 0);
        y.test(IDLE, 7, 0);
        due("the first one stays", x.told(0, 0), TEST);
    }

    // ---- 2 test

    @Says("need: what a CHAINED one NEEDS (else not looked at)")
    void p02NeedIsNotLookedAt() {
        TestPicker x = new TestPicker();
        int[] needs = {LEAST, -1, 0, 20, GREATEST};
        for (int need : needs) {
            due("TEST, need " + need, x.test(TEST, 1, need) >= 0 ? 1 : 0, 1);
            due("SLOW, need " + need, x.test(SLOW, 1, need) >= 0 ? 1 : 0, 1);
            due("IDLE, need " + need, x.test(IDLE, 1, need) >= 0 ? 1 : 0, 1);
        }
        for (int t = 0; t < 15; t++) {
            due("it NEEDS none", x.told(t, 2), NONE);
            due("its CHAIN", x.told(t, 6), 1);
        }
    }

    @Says("its number. BAD; FULL.")
    void p02Number() {
        TestPicker x = new TestPicker();
        due("first", x.test(TEST, 1, 0), 0);
        due("BAD", x.test(TEST, 0, 0), BAD);
        due("a refused one takes no number", x.test(TEST, 1, 0), 1);
        for (int t = 2; t < 20; t++) {
            due("next", x.test(CHAINED, 1000, t - 1), t);
        }
        for (int kind = 0; kind < 4; kind++) {
            due("FULL", x.test(kind, 1, 0), FULL);
        }
        due("twenty", x.count(0), 20);
    }

    @Says("A TEST of a KIND with a TIME")
    void p02KindAndTime() {
        TestPicker x = oneOfEachKind();
        int[] times = {10, 33, 12, 13};
        for (int t = 0; t < 4; t++) {
            due("kind", x.told(t, 0), t);
            due("time", x.told(t, 1), times[t]);
            due("needs", x.told(t, 2), t == 2 ? 0 : NONE);
        }
    }

    @Says("A TEST of a KIND with a TIME")
    void p02BehindABuild() {
        TestPicker x = new TestPicker();
        builds(x, 3, 1);
        due("made late", x.test(TEST, 1, 0), 0);
        due("no VERDICT", x.was(0, 0), NONE);
        due("in none", x.often(0, 2), 3);
    }

    // ---- 3 turn

    @Says("The KIND of a TEST becomes another one, but for CHAINED: what it was.")
    void p03FromEachToEach() {
        int[] kinds = {TEST, SLOW, IDLE};
        for (int from : kinds) {
            for (int to : kinds) {
                TestPicker x = new TestPicker();
                x.test(from, 5, 0);
                due(from + " to " + to, x.turn(0, to), from);
                due("it is", x.told(0, 0), to);
                due("its time", x.told(0, 1), to == SLOW ? 15 : 5);
                due("it NEEDS none", x.told(0, 2), NONE);
            }
        }
    }

    @Says("BAD: also CHAINED")
    void p03ToChainedOrNone() {
        TestPicker x = oneOfEachKind();
        for (int t = 0; t < 4; t++) {
            due("to CHAINED", x.turn(t, CHAINED), BAD);
            for (int kind : outside(3)) {
                due("to " + kind, x.turn(t, kind), BAD);
            }
            due("it stays", x.told(t, 0), t);
        }
        for (int t : outside(3)) {
            due("TEST " + t, x.turn(t, TEST), BAD);
        }
        due("no finding", x.finding(), 0);
    }

    @Says("UNLIKE: it is CHAINED.")
    void p03OfAChainedOne() {
        TestPicker x = oneOfEachKind();
        dueFinding(x, "to TEST", () -> x.turn(2, TEST), UNLIKE);
        dueFinding(x, "to SLOW", () -> x.turn(2, SLOW), UNLIKE);
        dueFinding(x, "to IDLE", () -> x.turn(2, IDLE), UNLIKE);
        due("it stays", x.told(2, 0), CHAINED);
    }

    // ---- 4 reach

    @Says("Byte i (0 .. 4) of the REACH of a TEST is b (0 .. 255): what it was.")
    void p04FirstAndLastByte() {
        TestPicker x = plain(2);
        due("byte 0, 255", x.reach(0, 0, 255), 0);
        due("byte 4, 255", x.reach(0, 4, 255), 0);
        due("both", reachOf(x, 0), 0xff000000ffL);
        due("byte 4, 0", x.reach(0, 4, 0), 255);
        due("byte 0, 128", x.reach(0, 0, 128), 255);
        due("byte 0, 1", x.reach(0, 0, 1), 128);
        due("what is left", reachOf(x, 0), 1);
        due("the other TEST", reachOf(x, 1), 0);
    }

    @Says("BAD: the TEST, b")
    void p04Bad() {
        TestPicker x = plain(1);
        for (int b : outside(255)) {
            due("b " + b, x.reach(0, 0, b), BAD);
            due("b " + b + " in the last byte", x.reach(0, 4, b), BAD);
        }
        for (int t : outside(0)) {
            due("TEST " + t, x.reach(t, 0, 1), BAD);
        }
        due("it stays", reachOf(x, 0), 0);
        due("no finding", x.finding(), 0);
    }

    @Says("NOTHING; BEYOND.")
    void p04Findings() {
        TestPicker x = plain(1);
        for (int i : outside(4)) {
            dueFinding(x, "byte " + i, () -> x.reach(0, i, 255), BEYOND);
        }
        due("it stays", reachOf(x, 0), 0);
        x.tear(0);
        dueFinding(x, "missing", () -> x.reach(0, 0, 1), NOTHING);
        dueFinding(x, "missing, and beyond", () -> x.reach(0, 5, 1), NOTHING);
        dueFinding(x, "missing, and below", () -> x.reach(0, -1, 1), NOTHING);
        x.anew(0);
        due("it stays", reachOf(x, 0), 0);
    }

    // ---- 5 byteOf

    @Says("A byte of it.")
    void p05EachByte() {
        TestPicker x = plain(1);
        int[] bytes = {255, 1, 128, 0, 254};
        for (int i = 0; i < 5; i++) {
            x.reach(0, i, bytes[i]);
        }
        for (int i = 0; i < 5; i++) {
            due("byte " + i, x.byteOf(0, i), bytes[i]);
        }
    }

    @Says("BAD; NOTHING; BEYOND.")
    void p05Refused() {
        TestPicker x = plain(1);
        for (int t : outside(0)) {
            due("TEST " + t, x.byteOf(t, 0), BAD);
        }
        due("no finding", x.finding(), 0);
        for (int i : outside(4)) {
            dueFinding(x, "byte " + i, () -> x.byteOf(0, i), BEYOND);
        }
        x.tear(0);
        dueFinding(x, "missing", () -> x.byteOf(0, 4), NOTHING);
        dueFinding(x, "missing, and beyond", () -> x.byteOf(0, 5), NOTHING);
    }

    // ---- 6 tear

    @Says("The REACH of a TEST is missing: 1.")
    void p06Tear() {
        TestPicker x = reaching(ALL_PARTS, ALL_PARTS);
        due("torn", x.tear(0), 1);
        due("missing", x.byteOf(0, 0), FINDING);
        due("the other one is there", reachOf(x, 1), ALL_PARTS);
        TestPicker y = plain(1);
        due("one of no PARTS", y.tear(0), 1);
        due("missing", y.byteOf(0, 0), FINDING);
    }

    @Says("BAD; NOTHING: it is.")
    void p06Refused() {
        TestPicker x = plain(1);
        for (int t : outside(0)) {
            due("TEST " + t, x.tear(t), BAD);
        }
        x.tear(0);
        dueFinding(x, "again", () -> x.tear(0), NOTHING);
        dueFinding(x, "and again", () -> x.tear(0), NOTHING);
        x.anew(0);
        due("it is there again", x.tear(0), 1);
    }

    // ---- 7 anew

    @Says("The REACH of a TEST is there, of no PARTS: 1 if it was there, else 0.")
    void p07Anew() {
        TestPicker x = reaching(ALL_PARTS, ALL_PARTS);
        due("it was there", x.anew(0), 1);
        due("of no PARTS", reachOf(x, 0), 0);
        due("again", x.anew(0), 1);
        x.tear(1);
        due("it was missing", x.anew(1), 0);
        due("of no PARTS", reachOf(x, 1), 0);
        due("it is there", x.anew(1), 1);
        due("no finding", x.finding(), 0);
    }

    @Says("BAD.")
    void p07Refused() {
        TestPicker x = reaching(ALL_PARTS);
        for (int t : outside(0)) {
            due("TEST " + t, x.anew(t), BAD);
        }
        due("it stays", reachOf(x, 0), ALL_PARTS);
    }

    // ---- 8 copy

    @Says("n bytes of a REACH, from one on, come to those of another TEST's (perhaps its own) from one on")
    void p08EachStretch() {
        eachStretch(0x0504030201L, 0x0f0e0d0c0bL);
        eachStretch(0, ALL_PARTS);
        eachStretch(ALL_PARTS, 0);
    }

    private void eachStretch(long from, long to) {
        for (int i = 0; i <= 5; i++) {
            for (int j = 0; j <= 5; j++) {
                for (int n = 0; n <= 5 - Math.max(i, j); n++) {
                    TestPicker x = reaching(from, to);
                    due("copy " + i + ", " + j + ", " + n, x.copy(0, i, 1, j, n), 1);
                    due("there " + i + ", " + j + ", " + n, reachOf(x, 1), copied(from, i, to, j, n));
                    due("here", reachOf(x, 0), from);
                }
            }
        }
    }

    @Says("as if taken ahead: 1")
    void p08OnItself() {
        long own = 0x0504030201L;
        for (int i = 0; i <= 5; i++) {
            for (int j = 0; j <= 5; j++) {
                for (int n = 0; n <= 5 - Math.max(i, j); n++) {
                    TestPicker x = reaching(own);
                    due("copy " + i + ", " + j + ", " + n, x.copy(0, i, 0, j, n), 1);
                    due("there " + i + ", " + j + ", " + n, reachOf(x, 0), copied(own, i, own, j, n));
                }
            }
        }
    }

    private static long copied(long from, int i, long to, int j, int n) {
        long all = to;
        for (int k = 0; k < n; k++) {
            long b = from >>> 8 * (i + k) & 255;
            all = all & ~(255L << 8 * (j + k)) | b << 8 * (j + k);
        }
        return all;
    }

    @Says("BAD: TESTS")
    void p08Bad() {
        TestPicker x = plain(2);
        for (int t : outside(1)) {
            due("from TEST " + t, x.copy(t, 0, 1, 0, 1), BAD);
            due("to TEST " + t, x.copy(0, 0, t, 0, 1), BAD);
        }
        due("no finding", x.finding(), 0);
    }

    @Says("SIZE: n below 0")
    void p08Size() {
        TestPicker x = reaching(1, 2);
        int[] sizes = {-1, -2, -5, LEAST + 1, LEAST};
        for (int n : sizes) {
            dueFinding(x, "n " + n, () -> x.copy(0, 0, 1, 0, n), SIZE);
            dueFinding(x, "n " + n + ", beyond", () -> x.copy(0, 6, 1, -1, n), SIZE);
        }
        due("n 0", x.copy(0, 0, 1, 0, 0), 1);
        due("it stays", reachOf(x, 1), 2);
        x.tear(0);
        dueFinding(x, "missing, too", () -> x.copy(0, 0, 1, 0, -1), SIZE);
    }

    @Says("NOTHING: either")
    void p08Nothing() {
        TestPicker x = reaching(1, 2);
        x.tear(0);
        dueFinding(x, "from", () -> x.copy(0, 0, 1, 0, 1), NOTHING);
        dueFinding(x, "to", () -> x.copy(1, 0, 0, 0, 1), NOTHING);
        dueFinding(x, "itself", () -> x.copy(0, 0, 0, 0, 1), NOTHING);
        dueFinding(x, "no bytes", () -> x.copy(0, 0, 1, 0, 0), NOTHING);
        dueFinding(x, "beyond, too", () -> x.copy(1, 6, 0, 6, 6), NOTHING);
        due("it stays", reachOf(x, 1), 2);
        x.tear(1);
        dueFinding(x, "both", () -> x.copy(0, 0, 1, 0, 1), NOTHING);
    }

    @Says("BEYOND: not so many there.")
    void p08Beyond() {
        TestPicker x = reaching(0x0504030201L, 0);
        for (int i = 0; i <= 5; i++) {
            int place = i;
            dueFinding(x, "from " + i, () -> x.copy(0, place, 1, 0, 6 - place), BEYOND);
            dueFinding(x, "to " + i, () -> x.copy(0, 0, 1, place, 6 - place), BEYOND);
        }
        for (int i : outside(5)) {
            dueFinding(x, "one from " + i, () -> x.copy(0, i, 1, 0, 1), BEYOND);
            dueFinding(x, "one to " + i, () -> x.copy(0, 0, 1, i, 1), BEYOND);
        }
        due("it stays", reachOf(x, 1), 0);
    }

    @Says("BEYOND: not so many there.")
    void p08BeyondWithWrapAround() {
        TestPicker x = reaching(0x0504030201L, 0);
        int[] far = {6, 255, 1 << 29, GREATEST - 5, GREATEST - 4, GREATEST - 1, GREATEST};
        for (int n : far) {
            for (int i = 0; i <= 5; i++) {
                int place = i;
                dueFinding(x, n + " from " + i, () -> x.copy(0, place, 1, 0, n), BEYOND);
                dueFinding(x, n + " to " + i, () -> x.copy(0, 0, 1, place, n), BEYOND);
            }
        }
        dueFinding(x, "all far", () -> x.copy(0, GREATEST, 1, GREATEST, GREATEST), BEYOND);
        dueFinding(x, "all below", () -> x.copy(0, LEAST, 1, LEAST, GREATEST), BEYOND);
        due("it stays", reachOf(x, 1), 0);
    }

    @Says("BEYOND: not so many there.")
    void p08NoBytes() {
        TestPicker x = reaching(1, 2);
        due("none from the end", x.copy(0, 5, 1, 0, 0), 1);
        due("none to the end", x.copy(0, 0, 1, 5, 0), 1);
        dueFinding(x, "none from 6", () -> x.copy(0, 6, 1, 0, 0), BEYOND);
        dueFinding(x, "none to 6", () -> x.copy(0, 0, 1, 6, 0), BEYOND);
        dueFinding(x, "none from -1", () -> x.copy(0, -1, 1, 0, 0), BEYOND);
        dueFinding(x, "none to -1", () -> x.copy(0, 0, 1, -1, 0), BEYOND);
        due("it stays", reachOf(x, 1), 2);
    }

    // ---- 9 told

    @Says("0 its KIND, 1 its TIME as it counts")
    void p09KindAndTime() {
        TestPicker x = oneOfEachKind();
        for (int t = 0; t < 4; t++) {
            due("KIND of " + t, x.told(t, 0), t);
            due("TIME of " + t, x.told(t, 1), t == SLOW ? 33 : 10 + t);
        }
        x.turn(1, IDLE);
        x.turn(3, SLOW);
        due("turned IDLE", x.told(1, 0), IDLE);
        due("turned IDLE", x.told(1, 1), 11);
        due("turned SLOW", x.told(3, 0), SLOW);
        due("turned SLOW", x.told(3, 1), 39);
    }

    @Says("2 what it NEEDS (NONE)")
    void p09Needs() {
        TestPicker x = oneOfEachKind();
        due("TEST", x.told(0, 2), NONE);
        due("SLOW", x.told(1, 2), NONE);
        due("CHAINED", x.told(2, 2), 0);
        due("IDLE", x.told(3, 2), NONE);
        x.test(CHAINED, 1, 3);
        due("an IDLE one", x.told(4, 2), 3);
    }

    @Says("3 its HEAT (0 without BUILDS)")
    void p09HeatWithoutBuilds() {
        TestPicker x = plain(1);
        due("no BUILDS", x.told(0, 3), 0);
        x.build(0);
        due("one BUILD", x.told(0, 3), 0);
        x.verdict(0, true);
        due("fell in it", x.told(0, 3), 0);
        x.build(0);
        due("one ago", x.told(0, 3), 128);
    }

    @Says("4 FLAKY (1, 0), 5 BROKEN (1, 0)")
    void p09WithoutBuilds() {
        TestPicker x = plain(1);
        due("FLAKY", x.told(0, 4), 0);
        due("BROKEN", x.told(0, 5), 0);
    }

    @Says("6 how many are in its CHAIN")
    void p09Chain() {
        TestPicker x = oneOfEachKind();
        x.test(CHAINED, 1, 2);
        x.test(CHAINED, 1, 3);
        int[] chains = {1, 1, 2, 1, 3, 2};
        for (int t = 0; t < 6; t++) {
            due("TEST " + t, x.told(t, 6), chains[t]);
        }
        x.turn(0, IDLE);
        due("an IDLE one counts in it", x.told(4, 6), 3);
    }

    @Says("BAD.")
    void p09Refused() {
        TestPicker x = plain(1);
        for (int t : outside(0)) {
            due("TEST " + t, x.told(t, 0), BAD);
        }
        for (int what : outside(6)) {
            due("what " + what, x.told(0, what), BAD);
        }
        due("no finding", x.finding(), 0);
    }

    // ---- 10 time

    @Says("TIME of a TEST that IS of a KIND, as it was told (a SLOW one's not three times).")
    void p10AsItWasTold() {
        TestPicker x = oneOfEachKind();
        for (int t = 0; t < 4; t++) {
            due("of its KIND", x.time(t, t), 10 + t);
        }
        x.test(SLOW, 1000, 0);
        due("1000", x.time(4, SLOW), 1000);
        x.turn(0, SLOW);
        due("turned SLOW", x.time(0, SLOW), 10);
        due("counts three times", x.told(0, 1), 30);
    }

    @Says("BAD: also the KIND")
    void p10Refused() {
        TestPicker x = oneOfEachKind();
        for (int kind : outside(3)) {
            due("KIND " + kind, x.time(0, kind), BAD);
        }
        for (int t : outside(3)) {
            due("TEST " + t, x.time(t, TEST), BAD);
        }
        due("no finding", x.finding(), 0);
    }

    @Says("UNLIKE: it is none of it (each is a TEST).")
    void p10Unlike() {
        TestPicker x = oneOfEachKind();
        for (int t = 0; t < 4; t++) {
            due("each is a TEST", x.time(t, TEST), 10 + t);
            for (int kind = 1; kind < 4; kind++) {
                int test = t;
                int other = kind;
                if (kind != t) {
                    dueFinding(x, t + " is no " + kind, () -> x.time(test, other), UNLIKE);
                }
            }
        }
    }
}
