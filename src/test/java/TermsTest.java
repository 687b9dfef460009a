/** The document's terms, up to what BROKEN is: sentence by sentence, at their boundaries. */
public final class TermsTest extends Sentences {
    public static void main(String[] args) throws IllegalAccessException {
        new TermsTest().testAll();
    }

    // ---- what is refused, and in which order

    @Says("Refused is, the first of these that fits, in this order: BAD -1 .. FULL -2")
    void badAheadOfFullForTests() {
        TestPicker x = plain(20);
        due("test: full", x.test(0, 1, 0), FULL);
        due("test: a kind that is none", x.test(4, 1, 0), BAD);
        due("test: a kind below", x.test(-1, 1, 0), BAD);
        due("test: time 0", x.test(0, 0, 0), BAD);
        due("test: time 1001", x.test(0, 1001, 0), BAD);
        due("test: needs one that is not", x.test(2, 1, 20), BAD);
        due("test: needs -1", x.test(2, 1, -1), BAD);
        due("test: needs one that is", x.test(2, 1, 19), FULL);
    }

    @Says("Refused is, the first of these that fits, in this order: BAD -1 .. FULL -2")
    void badAheadOfFullForBuilds() {
        TestPicker x = new TestPicker();
        builds(x, 60, 0);
        due("build: full", x.build(0), FULL);
        due("build: bit 40", x.build(1L << 40), BAD);
        due("build: bit 63", x.build(Long.MIN_VALUE), BAD);
    }

    @Says("Refused is, the first of these that fits, in this order: BAD -1 .. STATE -4 (not now)")
    void badAheadOfState() {
        TestPicker x = new TestPicker();
        due("verdict", x.verdict(0, true), BAD);
        due("pick below", x.pick(-1), BAD);
        due("pick above", x.pick(30001), BAD);
        due("best below", x.best(-1), BAD);
        due("best above", x.best(30001), BAD);
        due("run", x.run(1), BAD);
        x.test(0, 1, 0);
        due("verdict of the next", x.verdict(1, false), BAD);
        due("verdict", x.verdict(0, false), STATE);
        due("run of the next", x.run(2), BAD);
        due("run", x.run(1), STATE);
        due("pick", x.pick(0), STATE);
        due("best", x.best(0), STATE);
        x.build(0);
        due("run of the next, no pick", x.run(2), BAD);
        due("run, no pick", x.run(1), STATE);
    }

    @Says("Refused is, the first of these that fits, in this order: .. STATE -4 (not now), SPENT -6")
    void stateAheadOfSpent() {
        TestPicker x = plain(13);
        due("best without a BUILD", x.best(0), STATE);
        x.build(0);
        due("best with one", x.best(0), SPENT);
    }

    @Says("Refused is, the first of these that fits, in this order: BAD -1 .. SPENT -6 (more than told)")
    void badAheadOfSpent() {
        TestPicker x = plain(13);
        x.build(0);
        due("below", x.best(-1), BAD);
        due("above", x.best(30001), BAD);
        due("least", x.best(LEAST), BAD);
        due("as told", x.best(30000), SPENT);
    }

    @Says("Refused is, the first of these that fits, in this order: BAD -1 .. FINDING -3")
    void badAheadOfFinding() {
        TestPicker x = plain(1);
        x.test(CHAINED, 1, 0);
        x.tear(0);
        due("turn of a CHAINED one to CHAINED", x.turn(1, 2), BAD);
        due("turn of a CHAINED one to none", x.turn(1, 4), BAD);
        due("turn of a CHAINED one to -1", x.turn(1, -1), BAD);
        due("reach: missing, b 256", x.reach(0, 0, 256), BAD);
        due("reach: missing, b -1", x.reach(0, 0, -1), BAD);
        due("reach: beyond, b 256", x.reach(1, 5, 256), BAD);
        due("reach: beyond, no TEST", x.reach(2, 5, 0), BAD);
        due("byteOf: beyond, no TEST", x.byteOf(2, 5), BAD);
        due("copy: size, no TEST", x.copy(2, 0, 1, 0, -1), BAD);
        due("copy: size, no other TEST", x.copy(1, 0, 2, 0, -1), BAD);
        due("copy: missing, no other TEST", x.copy(0, 0, 2, 0, 1), BAD);
        due("copy: missing there, no TEST", x.copy(-1, 0, 0, 0, 1), BAD);
        due("copy: beyond, no TEST", x.copy(2, 6, 1, 6, 1), BAD);
        due("time: not of it, and none", x.time(0, 4), BAD);
        due("time: no TEST", x.time(2, 1), BAD);
        due("finding()", x.finding(), 0);
        due("findings", x.findings(1) + x.findings(2) + x.findings(3) + x.findings(4), 0);
    }

    // ---- findings

    @Says("1 NOTHING (a REACH that is missing)")
    void nothingIsOne() {
        TestPicker x = plain(1);
        x.tear(0);
        dueFinding(x, "byteOf", () -> x.byteOf(0, 0), 1);
    }

    @Says("2 BEYOND (a place that there is not)")
    void beyondIsTwo() {
        TestPicker x = plain(1);
        dueFinding(x, "byteOf", () -> x.byteOf(0, 5), 2);
    }

    @Says("3 UNLIKE (a TEST of another KIND)")
    void unlikeIsThree() {
        TestPicker x = plain(1);
        dueFinding(x, "time", () -> x.time(0, SLOW), 3);
    }

    @Says("4 SIZE (fewer than none)")
    void sizeIsFour() {
        TestPicker x = plain(1);
        dueFinding(x, "copy", () -> x.copy(0, 0, 0, 0, -1), 4);
    }

    @Says("Sets of PARTS are told by the bits of a long, sets of TESTS by those of an int.")
    void setsAreBits() {
        TestPicker x = plain(20);
        reachAll(x, 19, 1L << 39);
        for (int t = 0; t < 8; t++) {
            x.turn(t, IDLE);
        }
        x.build(1L << 39 | 1);
        x.change(0);
        due("PARTS 0 and 39", x.asked(), 0x8000000001L);
        due("best", x.best(1), 1);
        due("TEST 19", x.asked(), 0x80000);
        x.pick(1);
        due("TEST 19, picked", x.about(2), 0x80000);
        due("TEST 19 falls", x.run(0x80000), 1);
        due("suspects", x.suspects(), 1);
        due("PART 39", x.asked(), 1L << 39);
        due("missed by the others", x.missed(0x7ffff), 0);
        due("missed by none", x.missed(0x80000), NONE);
    }

    // ---- TESTS

    @Says("PARTS 0 .. 39.")
    void partsAreForty() {
        TestPicker x = new TestPicker();
        due("PART 0", x.build(1), 0);
        due("PART 39", x.build(1L << 39), 1);
        due("PART 40", x.build(1L << 40), BAD);
        due("PART 63", x.build(1L << 63), BAD);
        due("all forty", x.build(ALL_PARTS), 2);
        due("forty-one", x.build(ALL_PARTS + 1), BAD);
    }

    @Says("TESTS 0, 1, .. (20 at most)")
    void twentyTests() {
        TestPicker x = new TestPicker();
        for (int t = 0; t < 20; t++) {
            due("TEST " + t, x.test(t % 2, 1, 0), t);
        }
        due("one more", x.test(0, 1, 0), FULL);
        due("count", x.count(0), 20);
        due("the last", x.told(19, 0), 1);
        due("behind the last", x.told(20, 0), BAD);
    }

    @Says("are of a KIND: 0 TEST, 1 SLOW (a TEST), 2 CHAINED .., 3 IDLE")
    void fourKinds() {
        TestPicker x = new TestPicker();
        for (int kind : outside(3)) {
            due("kind " + kind, x.test(kind, 1, 0), BAD);
        }
        due("none was made", x.count(0), 0);
        for (int kind = 0; kind < 4; kind++) {
            due("kind " + kind, x.test(kind, 1, 0), kind);
            due("told", x.told(kind, 0), kind);
        }
    }

    @Says("it NEEDS another one, which was there before it")
    void needsAnEarlierOne() {
        TestPicker x = new TestPicker();
        due("the first needs itself", x.test(CHAINED, 1, 0), BAD);
        x.test(TEST, 1, 0);
        due("needs itself", x.test(CHAINED, 1, 1), BAD);
        due("needs a later one", x.test(CHAINED, 1, 2), BAD);
        for (int need : outside(0)) {
            due("needs " + need, x.test(CHAINED, 1, need), BAD);
        }
        due("needs the latest", x.test(CHAINED, 1, 0), 1);
        due("needs a CHAINED one", x.test(CHAINED, 1, 1), 2);
        due("needs what another one needs", x.test(CHAINED, 1, 0), 3);
        x.test(IDLE, 1, 0);
        due("needs an IDLE one", x.test(CHAINED, 1, 4), 5);
    }

    @Says("3 IDLE (a TEST: it is never picked)")
    void idleIsNeverPicked() {
        TestPicker x = reaching(1);
        x.build(1);
        due("a TEST", x.pick(30000), 1);
        x.turn(0, IDLE);
        due("pick", x.pick(30000), 0);
        due("best", x.best(30000), 0);
        due("best, which", x.asked(), 0);
    }

    @Says("A TEST has a TIME (1 .. 1000)")
    void timesOfATest() {
        TestPicker x = new TestPicker();
        due("0", x.test(TEST, 0, 0), BAD);
        due("1001", x.test(TEST, 1001, 0), BAD);
        due("1001, SLOW", x.test(SLOW, 1001, 0), BAD);
        due("0, IDLE", x.test(IDLE, 0, 0), BAD);
        for (int time : outside(1000)) {
            due("time " + time, x.test(TEST, time, 0), BAD);
        }
        due("1", x.test(TEST, 1, 0), 0);
        due("1000", x.test(TEST, 1000, 0), 1);
        due("1000, SLOW", x.test(SLOW, 1000, 0), 2);
        due("0, CHAINED", x.test(CHAINED, 0, 0), BAD);
        due("1001, CHAINED", x.test(CHAINED, 1001, 0), BAD);
        due("1000, CHAINED", x.test(CHAINED, 1000, 0), 3);
        due("told", x.told(0, 1), 1);
        due("told", x.told(1, 1), 1000);
    }

    @Says("a row of 5 bytes, the bits of which are the PARTS 0 .. 39 that it reaches, the lowest first")
    void eachBitIsAPart() {
        TestPicker x = plain(1);
        for (int p = 0; p < 40; p++) {
            x.reach(0, p / 8, 1 << p % 8);
            x.build(1L << p);
            due("PART " + p, x.pick(1), 1);
            x.reach(0, p / 8, 0);
            due("no more", x.pick(1), 0);
        }
    }

    @Says("a row of 5 bytes, the bits of which are the PARTS 0 .. 39 that it reaches, the lowest first")
    void theOtherPartsAreNotReached() {
        for (int p = 0; p < 40; p++) {
            TestPicker x = plain(1);
            x.reach(0, p / 8, 1 << p % 8);
            x.build(ALL_PARTS & ~(1L << p));
            due("all but PART " + p, x.pick(1), 0);
            x.build(ALL_PARTS);
            x.pick(1);
            due("PART " + p + " alone", x.about(1), 1);
        }
    }

    @Says("(none at first)")
    void reachesNoneAtFirst() {
        TestPicker x = new TestPicker();
        x.build(ALL_PARTS);
        for (int t = 0; t < 4; t++) {
            x.test(t, 1, 0);
            due("KIND " + t, reachOf(x, t), 0);
        }
        due("nothing to gain", x.pick(30000), 0);
        due("it is not missing", x.finding(), 0);
    }

    @Says(", or missing.")
    void aMissingReach() {
        TestPicker x = reaching(ALL_PARTS);
        x.build(ALL_PARTS);
        x.tear(0);
        due("it has no bytes", x.byteOf(0, 0), FINDING);
        due("it is not picked", x.pick(30000), 0);
        x.verdict(0, true);
        due("it reaches nothing", x.suspects(), 0);
        x.anew(0);
        due("what it was is gone", reachOf(x, 0), 0);
    }

    @Says("A SLOW one's TIME counts three times in all that follows (TIME is what counts).")
    void slowTellsThreeTimes() {
        TestPicker x = new TestPicker();
        x.test(SLOW, 1, 0);
        x.test(SLOW, 1000, 0);
        due("1", x.told(0, 1), 3);
        due("1000", x.told(1, 1), 3000);
        x.turn(1, IDLE);
        due("not when IDLE", x.told(1, 1), 1000);
    }

    @Says("A SLOW one's TIME counts three times in all that follows (TIME is what counts).")
    void slowCostsThreeTimes() {
        TestPicker x = new TestPicker();
        add(x, SLOW, 2, 0, 1);
        add(x, TEST, 5, 0, 2);
        x.build(3);
        due("both", x.pick(11), 2);
        due("5 goes ahead of 6", rowOf(x), row(1, 0));
        due("together", x.about(0), 11);
        due("one only", x.pick(10), 1);
        due("best: both", x.best(11), 2);
        due("best: one", x.best(10), 1);
        due("best: the one of 5", x.asked(), 2);
        due("best: none of 6", x.best(4), 0);
        x.turn(0, TEST);
        due("now 2 goes ahead", x.pick(7), 2);
        due("now 2 goes ahead", rowOf(x), row(0, 1));
    }

    @Says("A SLOW one's TIME counts three times in all that follows (TIME is what counts).")
    void slowIsDearerForTheFewest() {
        TestPicker x = new TestPicker();
        add(x, SLOW, 2, 0, 1);
        add(x, TEST, 5, 0, 1);
        x.build(1);
        x.verdict(0, true);
        x.verdict(1, true);
        x.fewest();
        due("5 is less than 6", x.asked(), 2);
    }

    @Says("ITS CHAIN: it, what it NEEDS, and so on.")
    void chainOfTwenty() {
        TestPicker x = new TestPicker();
        x.test(TEST, 1, 0);
        due("it alone", x.told(0, 6), 1);
        for (int t = 1; t < 20; t++) {
            x.test(CHAINED, 1, t - 1);
            due("TEST " + t, x.told(t, 6), t + 1);
        }
        reachAll(x, 19, 1);
        x.build(1);
        due("19 is not enough", x.pick(19), 0);
        due("20 is", x.pick(20), 20);
        due("the first of it", x.picked(0), 0);
        due("the last of it", x.picked(19), 19);
    }

    // ---- BUILDS

    @Says("BUILDS 0, 1, .. (60 at most)")
    void sixtyBuilds() {
        TestPicker x = plain(1);
        for (int b = 0; b < 60; b++) {
            due("BUILD " + b, x.build(b), b);
            due("its verdict", x.verdict(0, true), 0);
        }
        due("one more", x.build(0), FULL);
        due("count", x.count(1), 60);
        due("fell in all", x.often(0, 0), 60);
        x.change(59);
        due("the last", x.asked(), 59);
        due("behind the last", x.change(60), BAD);
    }

    @Says("each has a CHANGE, a set of PARTS")
    void changesMayBeEmptyOrAll() {
        TestPicker x = new TestPicker();
        due("none", x.build(0), 0);
        due("all", x.build(ALL_PARTS), 1);
        x.change(1);
        due("all", x.asked(), ALL_PARTS);
        x.change(0);
        due("none", x.asked(), 0);
    }

    @Says("The PRESENT one is the latest.")
    void presentIsTheLatest() {
        TestPicker x = reaching(1, 2);
        x.build(1);
        x.build(2);
        x.verdict(0, true);
        due("a verdict comes there", x.was(0, 1), 1);
        due("not ahead", x.was(0, 0), NONE);
        x.pick(10);
        due("its CHANGE counts", x.about(2), 2);
        x.best(10);
        due("its CHANGE counts", x.asked(), 2);
        due("no PART of it", x.suspects(), 0);
        x.build(1);
        due("nothing fell yet", x.badWork(), 0);
    }

    @Says("A VERDICT of a TEST in a BUILD: passed or fell, or none.")
    void verdictOrNone() {
        TestPicker x = plain(3);
        x.build(0);
        x.verdict(0, false);
        x.verdict(1, true);
        due("passed", x.was(0, 0), 0);
        due("fell", x.was(1, 0), 1);
        due("none", x.was(2, 0), NONE);
    }

    @Says("for each of the 8 BUILDS ahead of the PRESENT one in which it fell 2 to the power of 8 less how many BUILDS ago")
    void heatOfOneFall() {
        TestPicker x = plain(1);
        x.build(0);
        x.verdict(0, true);
        due("0 ago", x.told(0, 3), 0);
        for (int ago = 1; ago <= 8; ago++) {
            x.build(0);
            due(ago + " ago", x.told(0, 3), 256 >> ago);
        }
        x.build(0);
        due("9 ago", x.told(0, 3), 0);
    }

    @Says("for each of the 8 BUILDS ahead of the PRESENT one in which it fell 2 to the power of 8 less how many BUILDS ago")
    void heatOfAllFalls() {
        TestPicker x = plain(1);
        int[] heats = {0, 128, 192, 224, 240, 248, 252, 254, 255, 255, 255};
        for (int b = 0; b < 60; b++) {
            x.build(0);
            due("before it falls in " + b, x.told(0, 3), heats[Math.min(b, 10)]);
            x.verdict(0, true);
            due("that in the PRESENT one does not count", x.told(0, 3), heats[Math.min(b, 10)]);
        }
    }

    @Says("for each of the 8 BUILDS ahead of the PRESENT one in which it fell")
    void heatOfPasses() {
        TestPicker x = plain(1);
        for (int b = 0; b < 9; b++) {
            x.build(0);
            x.verdict(0, false);
        }
        due("passed in all", x.told(0, 3), 0);
    }

    // ---- FLAKY and BROKEN

    @Says("two BUILDS i and j (i below j) in which it has VERDICTS that are unlike")
    void flakyNeedsTwoUnlike() {
        TestPicker x = plain(4);
        x.build(0);
        due("no VERDICT", x.told(0, 4), 0);
        x.verdict(0, true);
        x.verdict(1, false);
        x.verdict(2, true);
        x.verdict(3, false);
        due("one", x.told(0, 4), 0);
        x.verdict(0, false);
        due("another one in the same BUILD", x.told(0, 4), 0);
        x.verdict(0, true);
        x.build(0);
        x.verdict(0, true);
        x.verdict(1, false);
        x.verdict(2, false);
        x.verdict(3, true);
        due("fell, fell", x.told(0, 4), 0);
        due("passed, passed", x.told(1, 4), 0);
        due("fell, passed", x.told(2, 4), 1);
        due("passed, fell", x.told(3, 4), 1);
    }

    @Says("and none between in which it has one")
    void flakyLooksAtNeighbours() {
        TestPicker x = reaching(1, 1, 1);
        // 0: passed, fell behind a change, passed behind another one: the first and the last are alike.
        x.build(0);
        x.verdict(0, false);
        x.verdict(1, false);
        x.verdict(2, false);
        x.build(1);
        x.verdict(0, true);
        x.verdict(1, true);
        x.build(1);
        x.verdict(0, false);
        x.verdict(1, true);
        x.build(0);
        x.verdict(1, true);
        x.verdict(2, true);
        due("each behind a change", x.told(0, 4), 0);
        due("alike behind the change", x.told(1, 4), 0);
        due("BUILDS without one do not part them, changes do", x.told(2, 4), 0);
    }

    @Says("and none between in which it has one")
    void flakyAcrossBuildsWithoutAVerdict() {
        TestPicker x = reaching(1);
        x.build(1);
        x.verdict(0, false);
        builds(x, 58, 2);
        x.verdict(0, false);
        due("alike", x.told(0, 4), 0);
        x.build(2);
        x.verdict(0, true);
        due("unlike", x.told(0, 4), 1);
    }

    @Says("and none between in which it has one")
    void flakyFromTheFirstToTheLastBuild() {
        TestPicker x = reaching(1);
        x.build(1);
        x.verdict(0, true);
        builds(x, 59, 2);
        due("not yet", x.told(0, 4), 0);
        x.verdict(0, false);
        due("0 and 59", x.told(0, 4), 1);
    }

    @Says("while no BUILD behind i up to j changed a PART that it reaches")
    void flakyDoesNotMindTheChangeOfTheFirst() {
        TestPicker x = reaching(1);
        x.build(1);
        x.verdict(0, false);
        x.build(2);
        x.verdict(0, true);
        due("i changed it, j did not", x.told(0, 4), 1);
    }

    @Says("while no BUILD behind i up to j changed a PART that it reaches")
    void flakyMindsTheChangeOfTheLast() {
        TestPicker x = reaching(1);
        x.build(0);
        x.verdict(0, false);
        x.build(1);
        x.verdict(0, true);
        due("j changed it", x.told(0, 4), 0);
    }

    @Says("while no BUILD behind i up to j changed a PART that it reaches")
    void flakyMindsTheChangesBetween() {
        TestPicker x = reaching(1L << 39);
        x.build(0);
        x.verdict(0, false);
        x.build(1L << 39);
        x.build(0);
        x.verdict(0, true);
        due("one between changed it", x.told(0, 4), 0);
        x.build(ALL_PARTS >> 1);
        x.verdict(0, false);
        due("all others changed", x.told(0, 4), 1);
    }

    @Says("(as its REACH is now; missing: it reaches none)")
    void flakyByTheReachOfNow() {
        TestPicker x = reaching(1);
        x.build(1);
        x.verdict(0, false);
        x.build(1);
        x.verdict(0, true);
        due("it reaches what changed", x.told(0, 4), 0);
        x.reach(0, 0, 2);
        due("now it does not", x.told(0, 4), 1);
        x.reach(0, 0, 3);
        due("now it does", x.told(0, 4), 0);
        x.tear(0);
        due("now it is missing", x.told(0, 4), 1);
        x.anew(0);
        due("now it is of no PARTS", x.told(0, 4), 1);
    }

    @Says("It is BROKEN, if it is not FLAKY and its latest VERDICT is that it fell.")
    void brokenByTheLatestVerdict() {
        TestPicker x = reaching(1);
        x.build(1);
        due("no VERDICT", x.told(0, 5), 0);
        x.verdict(0, true);
        due("fell", x.told(0, 5), 1);
        builds(x, 58, 1);
        due("fell long ago, none since", x.told(0, 5), 1);
        x.build(1);
        x.verdict(0, false);
        due("passed since", x.told(0, 5), 0);
        x.verdict(0, true);
        due("fell in the last", x.told(0, 5), 1);
        x.tear(0);
        due("alike: not FLAKY, still BROKEN", x.told(0, 5), 1);
    }

    @Says("It is BROKEN, if it is not FLAKY")
    void flakyIsNotBroken() {
        TestPicker x = plain(1);
        x.build(0);
        x.verdict(0, false);
        x.build(0);
        x.verdict(0, true);
        due("FLAKY", x.told(0, 4), 1);
        due("BROKEN", x.told(0, 5), 0);
    }
}
