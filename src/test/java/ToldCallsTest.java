/** Promises 25 to 29, and how long an object is used: sentence by sentence, at their boundaries. */
public final class ToldCallsTest extends Sentences {
    public static void main(String[] args) throws IllegalAccessException {
        new ToldCallsTest().testAll();
    }

    // ---- 25 asked

    @Says("0 before.")
    void p25Before() {
        TestPicker x = reaching(1);
        x.build(1);
        x.pick(1);
        x.run(1);
        x.badWork();
        x.missed(0);
        due("no such call yet", x.asked(), 0);
        x.change(1);
        x.best(-1);
        due("only refused ones", x.asked(), 0);
    }

    @Says("What the latest change(), best(), suspects(), fewest() that was not refused told")
    void p25TheLatest() {
        TestPicker x = reaching(0b0110, 0b0001);
        x.build(0b0111);
        x.build(0b1111);
        x.verdict(0, true);
        x.change(0);
        due("change", x.asked(), 0b0111);
        x.best(30000);
        due("best", x.asked(), 0b0011);
        x.suspects();
        due("suspects", x.asked(), 0b0110);
        x.fewest();
        due("fewest", x.asked(), 0b0001);
        due("asked again", x.asked(), 0b0001);
    }

    @Says("What the latest .. that was not refused told")
    void p25NoneIsToldToo() {
        TestPicker x = reaching(1);
        x.build(7);
        x.build(0);
        x.change(0);
        x.best(30000);
        due("best of none", x.asked(), 0);
        x.change(0);
        x.suspects();
        due("no suspects", x.asked(), 0);
        x.change(0);
        x.fewest();
        due("fewest of none", x.asked(), 0);
        x.change(0);
        x.change(1);
        due("no CHANGE", x.asked(), 0);
    }

    @Says("What the latest change(), best(), suspects(), fewest() that was not refused told")
    void p25RefusedOnes() {
        TestPicker x = plain(13);
        x.build(5);
        x.change(0);
        for (int t = 0; t < 13; t++) {
            x.verdict(t, true);
        }
        due("change BAD", x.change(1), BAD);
        due("change BAD", x.change(-1), BAD);
        due("best BAD", x.best(-1), BAD);
        due("best SPENT", x.best(1), SPENT);
        due("fewest SPENT", x.fewest(), SPENT);
        due("it stays", x.asked(), 5);
    }

    @Says("What the latest .. told")
    void p25AsItWasTold() {
        TestPicker x = reaching(1);
        x.build(1);
        x.verdict(0, true);
        x.suspects();
        x.verdict(0, false);
        x.build(2);
        x.tear(0);
        due("what changes later does not matter", x.asked(), 1);
    }

    // ---- 26 count

    @Says("0 TESTS, 1 BUILDS, 2 VERDICTS in all.")
    void p26Count() {
        TestPicker x = plain(3);
        builds(x, 2, 0);
        due("TESTS", x.count(0), 3);
        due("BUILDS", x.count(1), 2);
        due("VERDICTS", x.count(2), 0);
        x.verdict(0, true);
        x.verdict(1, false);
        due("fell and passed", x.count(2), 2);
        x.verdict(0, false);
        due("one went, one came", x.count(2), 2);
        x.build(0);
        x.verdict(0, true);
        due("in another BUILD", x.count(2), 3);
    }

    @Says("0 TESTS, 1 BUILDS, 2 VERDICTS in all.")
    void p26Most() {
        // More than a person could give one by one in 512 calls: a PICK of twenty runs in each BUILD.
        TestPicker x = new TestPicker();
        for (int t = 0; t < 20; t++) {
            x.test(TEST, 1, 0);
            x.reach(t, t / 8, 1 << t % 8);
        }
        for (int b = 0; b < 60; b++) {
            x.build(0xfffff);
            due("pick", x.pick(20), 20);
            due("run", x.run(b % 2 == 0 ? 0xfffff : 0), 20);
        }
        due("TESTS", x.count(0), 20);
        due("BUILDS", x.count(1), 60);
        due("VERDICTS", x.count(2), 1200);
        due("missed", x.missed(0), 0);
        due("fewest", x.fewest(), SPENT);
        due("fell", x.often(19, 0), 30);
        due("HEAT of every other one", x.told(19, 3), 0b10101010);
    }

    @Says("BAD.")
    void p26Refused() {
        TestPicker x = plain(1);
        for (int what : outside(2)) {
            due("what " + what, x.count(what), BAD);
        }
    }

    // ---- 27 finding, 28 findings

    @Says("The latest FINDING (0 before any).")
    void p27Finding() {
        TestPicker x = plain(1);
        due("before any", x.finding(), 0);
        x.told(7, 0);
        due("BAD is none", x.finding(), 0);
        x.pick(0);
        due("STATE is none", x.finding(), 0);
        x.byteOf(0, 5);
        due("BEYOND", x.finding(), BEYOND);
        x.copy(0, 0, 0, 0, -1);
        due("SIZE", x.finding(), SIZE);
        x.tear(0);
        due("what is not refused leaves it", x.finding(), SIZE);
        x.tear(0);
        due("NOTHING", x.finding(), NOTHING);
        x.time(0, IDLE);
        due("UNLIKE", x.finding(), UNLIKE);
        x.told(7, 0);
        due("BAD leaves it", x.finding(), UNLIKE);
        due("asked for again", x.finding(), UNLIKE);
    }

    @Says("How often a FINDING (1 .. 4) was answered.")
    void p28Findings() {
        TestPicker x = plain(1);
        for (int f = 1; f <= 4; f++) {
            due("before any", x.findings(f), 0);
        }
        x.time(0, IDLE);
        x.copy(0, 0, 0, 0, -1);
        x.copy(0, 0, 0, 0, -1);
        for (int k = 0; k < 3; k++) {
            x.reach(0, 5, 0);
        }
        x.tear(0);
        for (int k = 0; k < 4; k++) {
            x.tear(0);
        }
        due("NOTHING", x.findings(NOTHING), 4);
        due("BEYOND", x.findings(BEYOND), 3);
        due("UNLIKE", x.findings(UNLIKE), 1);
        due("SIZE", x.findings(SIZE), 2);
    }

    @Says("BAD.")
    void p28Refused() {
        TestPicker x = plain(1);
        x.byteOf(0, 5);
        due("0", x.findings(0), BAD);
        for (int f : outside(4)) {
            due("f " + f, x.findings(f), BAD);
        }
        due("finding() stays", x.finding(), BEYOND);
    }

    // ---- 29 digest

    private static long digestOf(long... row) {
        long h = 17;
        for (long v : row) {
            h = 31 * h + v;
        }
        return h;
    }

    @Says("h = 17")
    void p29Nothing() {
        due("no TESTS, no BUILDS", new TestPicker().digest(), 17);
    }

    @Says("of each TEST told() 0 to 6, its REACH's bytes (0 .. 255; -1 once if it is missing)")
    void p29OfTests() {
        TestPicker x = new TestPicker();
        x.test(SLOW, 1000, 0);
        due("of no PARTS", x.digest(), digestOf(1, 3000, -9, 0, 0, 0, 1, 0, 0, 0, 0, 0));
        reachAll(x, 0, 0xff80017f00L);
        due("bytes", x.digest(), digestOf(1, 3000, -9, 0, 0, 0, 1, 0, 0x7f, 1, 0x80, 255));
        x.tear(0);
        due("missing", x.digest(), digestOf(1, 3000, -9, 0, 0, 0, 1, -1));
        x.test(CHAINED, 7, 0);
        due("two", x.digest(), digestOf(1, 3000, -9, 0, 0, 0, 1, -1, 2, 7, 0, 0, 0, 0, 2, 0, 0, 0, 0, 0));
    }

    @Says("of each BUILD its CHANGE, and was() of each TEST")
    void p29OfBuilds() {
        TestPicker x = new TestPicker();
        x.build(0);
        due("a BUILD, no CHANGE", x.digest(), digestOf(0));
        x.build(ALL_PARTS);
        due("two", x.digest(), digestOf(0, ALL_PARTS));
        x.test(IDLE, 1, 0);
        x.verdict(0, true);
        due("a TEST", x.digest(), digestOf(3, 1, -9, 0, 0, 1, 1, 0, 0, 0, 0, 0, 0, -9, ALL_PARTS, 1));
        x.build(1L << 39);
        x.verdict(0, false);
        due("FLAKY, with HEAT", x.digest(),
                digestOf(3, 1, -9, 128, 1, 0, 1, 0, 0, 0, 0, 0, 0, -9, ALL_PARTS, 1, 1L << 39, 0));
    }

    @Says("then h = 31 h + v for each v")
    void p29WrapsAroundAtTheMost() {
        TestPicker x = plain(20);
        long[] row = new long[20 * 12 + 60 * 21];
        int at = 0;
        for (int t = 0; t < 20; t++) {
            x.reach(t, 4, 255);
        }
        builds(x, 60, ALL_PARTS);
        for (int t = 0; t < 20; t++) {
            long[] told = {0, 1, -9, 0, 0, 0, 1, 0, 0, 0, 0, 255};
            System.arraycopy(told, 0, row, at, told.length);
            at += told.length;
        }
        for (int b = 0; b < 60; b++) {
            row[at++] = ALL_PARTS;
            for (int t = 0; t < 20; t++) {
                row[at++] = -9;
            }
        }
        due("all at their most", x.digest(), digestOf(row));
    }

    // ---- how long an object is used

    @Says("An object is used for at most 512 calls after it has been made")
    void theLastCallIsAnswered() {
        TestPicker x = new TestPicker();
        x.test(TEST, 1, 0);
        x.build(1);
        for (int call = 3; call < 512; call++) {
            x.byteOf(0, 5);
        }
        due("call 512", x.findings(BEYOND), 509);
        TestPicker y = new TestPicker();
        y.test(TEST, 1, 0);
        y.reach(0, 0, 1);
        y.build(1);
        for (int call = 4; call < 512; call++) {
            y.verdict(0, call % 2 == 0);
        }
        due("call 512", y.suspects(), 0);
    }

    @Says("An object is used for at most 512 calls after it has been made")
    void theDearestCallsAllTheTime() {
        TestPicker x = new TestPicker();
        for (int t = 0; t < 12; t++) {
            x.test(TEST, 1, 0);
            x.reach(t, t / 8, 1 << t % 8);
        }
        x.build(ALL_PARTS);
        for (int t = 0; t < 12; t++) {
            x.verdict(t, true);
        }
        for (int call = 37; call < 511; call += 2) {
            due("best", x.best(call % 13), call % 13);
            due("fewest", x.fewest(), 1);
        }
    }
}
