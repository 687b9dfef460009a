/** Promises 16 to 24, sentence by sentence, at their boundaries. */
public final class PickingCallsTest extends Sentences {
    public static void main(String[] args) throws IllegalAccessException {
        new PickingCallsTest().testAll();
    }

    /** 0, needed by 1 and 3; 1 needed by 2; 4 alone: all in a BUILD that changed what they reach. */
    private static TestPicker tree() {
        TestPicker x = new TestPicker();
        add(x, TEST, 1, 0, 0b00001);
        add(x, CHAINED, 1, 0, 0b00010);
        add(x, CHAINED, 1, 1, 0b00100);
        add(x, CHAINED, 1, 0, 0b01000);
        add(x, TEST, 1, 0, 0b10000);
        x.build(0b11111);
        return x;
    }

    private static long verdictsOf(TestPicker x, int tests, int build) {
        long all = 0;
        for (int t = 0; t < tests; t++) {
            int was = x.was(t, build);
            all = 10 * all + (was == NONE ? 9 : was);
        }
        return all;
    }

    // ---- 16 pick

    @Says("THE PICK for a time (0 .. 30000): how many TESTS.")
    void p16Times() {
        TestPicker x = reaching(1);
        x.build(1);
        due("0", x.pick(0), 0);
        due("1", x.pick(1), 1);
        due("30000", x.pick(30000), 1);
        x.build(0);
        due("nothing changed", x.pick(30000), 0);
        TestPicker y = new TestPicker();
        y.build(ALL_PARTS);
        due("no TESTS", y.pick(30000), 0);
    }

    @Says("THE PICK for a time (0 .. 30000): how many TESTS.")
    void p16AllTwenty() {
        TestPicker x = new TestPicker();
        for (int t = 0; t < 20; t++) {
            add(x, TEST, 1000, 0, 1L << 2 * t);
        }
        x.build(ALL_PARTS);
        due("20000", x.pick(20000), 20);
        due("19999", x.pick(19999), 19);
        due("without the last", x.about(2), 0x7ffff);
    }

    @Says("BAD; STATE: no BUILD.")
    void p16Refused() {
        TestPicker x = reaching(1);
        due("no BUILD", x.pick(0), STATE);
        due("no BUILD", x.pick(30000), STATE);
        due("no PICK of it", x.about(0), NONE);
        for (int time : outside(30000)) {
            due("no BUILD, time " + time, x.pick(time), BAD);
        }
        x.build(1);
        for (int time : outside(30000)) {
            due("time " + time, x.pick(time), BAD);
        }
        due("no PICK of it", x.about(0), NONE);
    }

    // ---- 17 picked

    @Says("TEST i of the latest pick(); NONE: none such.")
    void p17Picked() {
        TestPicker x = reaching(1, 2);
        due("no BUILD", x.picked(0), NONE);
        x.build(3);
        due("no pick()", x.picked(0), NONE);
        x.pick(2);
        due("0", x.picked(0), 0);
        due("1", x.picked(1), 1);
        for (int i : outside(1)) {
            due("place " + i, x.picked(i), NONE);
        }
        x.pick(1);
        due("the latest one has one", x.picked(1), NONE);
        x.pick(0);
        due("the latest one has none", x.picked(0), NONE);
    }

    @Says("TEST i of the latest pick(); NONE: none such.")
    void p17AllTwenty() {
        TestPicker x = new TestPicker();
        for (int t = 0; t < 20; t++) {
            add(x, TEST, 1, 0, 3L << 2 * t);
        }
        x.build(ALL_PARTS);
        x.pick(20);
        due("the last", x.picked(19), 19);
        for (int i : outside(19)) {
            due("place " + i, x.picked(i), NONE);
        }
    }

    @Says("TEST i of the latest pick()")
    void p17ARefusedPickIsNotTheLatest() {
        TestPicker x = reaching(1);
        x.build(1);
        x.pick(1);
        x.pick(-1);
        x.pick(30001);
        due("it stays", x.picked(0), 0);
        x.best(0);
        x.run(0);
        due("best() and run() are none", x.picked(0), 0);
    }

    // ---- 18 about

    @Says("Of the latest pick(): 0 its TIME, 1 how many PARTS of the CHANGE it reaches, 2 its TESTS (bits)")
    void p18About() {
        TestPicker x = new TestPicker();
        add(x, SLOW, 1000, 0, 0b0111);
        add(x, CHAINED, 1000, 0, 0b1110);
        x.build(0b1011);
        x.pick(4000);
        due("TIME", x.about(0), 4000);
        due("PARTS of the CHANGE", x.about(1), 3);
        due("TESTS", x.about(2), 0b11);
        x.pick(3999);
        due("TIME of the latest", x.about(0), 3000);
        due("PARTS of the latest", x.about(1), 2);
        due("TESTS of the latest", x.about(2), 0b01);
    }

    @Says("NONE: there is none.")
    void p18None() {
        TestPicker x = reaching(1);
        for (int what = 0; what < 3; what++) {
            due("no BUILD, " + what, x.about(what), NONE);
        }
        x.pick(1);
        x.build(1);
        for (int what = 0; what < 3; what++) {
            due("no pick(), " + what, x.about(what), NONE);
        }
        x.pick(0);
        for (int what = 0; what < 3; what++) {
            due("one of no TESTS, " + what, x.about(what), 0);
        }
    }

    @Says("BAD.")
    void p18Refused() {
        TestPicker x = reaching(1);
        for (int what : outside(2)) {
            due("no PICK, what " + what, x.about(what), BAD);
        }
        x.build(1);
        x.pick(1);
        for (int what : outside(2)) {
            due("what " + what, x.about(what), BAD);
        }
    }

    // ---- 19 best

    @Says("THE BEST for a time: how many PARTS of the CHANGE it reaches; its TESTS (bits) by asked().")
    void p19Best() {
        TestPicker x = reaching(0b0011, 0b0110, 0b1100);
        x.build(0b1111);
        due("0", x.best(0), 0);
        due("none", x.asked(), 0);
        due("1", x.best(1), 2);
        due("the least", x.asked(), 0b001);
        due("2", x.best(2), 4);
        due("the two", x.asked(), 0b101);
        due("30000", x.best(30000), 4);
        due("not the third", x.asked(), 0b101);
        TestPicker y = new TestPicker();
        y.build(ALL_PARTS);
        due("no TESTS", y.best(30000), 0);
        due("none", y.asked(), 0);
    }

    @Says("THE BEST for a time: how many PARTS of the CHANGE it reaches")
    void p19BestIsNotThePick() {
        TestPicker x = reaching(1, 2);
        x.build(3);
        x.pick(1);
        x.best(2);
        due("the PICK stays", x.about(2), 0b01);
    }

    @Says("BAD; STATE: no BUILD; SPENT.")
    void p19Refused() {
        TestPicker x = plain(13);
        due("no BUILD", x.best(1), STATE);
        for (int time : outside(30000)) {
            due("no BUILD, time " + time, x.best(time), BAD);
        }
        x.build(6);
        x.change(0);
        due("SPENT", x.best(1), SPENT);
        for (int time : outside(30000)) {
            due("time " + time, x.best(time), BAD);
        }
        due("asked() stays", x.asked(), 6);
    }

    // ---- 20 run

    @Says("each TEST of it in order passes, but those of a set, which fall")
    void p20PassOrFall() {
        TestPicker x = tree();
        due("five", x.pick(30000), 5);
        due("none falls", x.run(0), 5);
        due("all passed", verdictsOf(x, 5, 0), 0);
        x.build(0b11111);
        x.pick(30000);
        due("the last one falls", x.run(0b10000), 5);
        due("it fell", verdictsOf(x, 5, 1), 1);
        x.build(0b11111);
        x.pick(30000);
        due("those without others behind them", x.run(0b11100), 5);
        due("they fell", verdictsOf(x, 5, 2), 111);
    }

    @Says("behind one that fell those that NEED it (at whatever depth) do not run")
    void p20BehindOneThatFell() {
        int[] falling = {0b00001, 0b00010, 0b01010, 0b11111, 0b00100};
        int[] came = {2, 4, 4, 2, 5};
        long[] verdicts = {19990, 1900, 1910, 19991, 100};
        for (int k = 0; k < falling.length; k++) {
            TestPicker x = tree();
            x.pick(30000);
            due("falling " + falling[k], x.run(falling[k]), came[k]);
            due("verdicts " + falling[k], verdictsOf(x, 5, 0), verdicts[k]);
            due("in all", x.count(2), came[k]);
        }
    }

    @Says("behind one that fell those that NEED it (at whatever depth) do not run")
    void p20ChainOfTwenty() {
        for (int fell = 0; fell < 20; fell++) {
            TestPicker x = new TestPicker();
            x.test(TEST, 1, 0);
            for (int t = 1; t < 20; t++) {
                x.test(CHAINED, 1, t - 1);
            }
            x.reach(19, 4, 128);
            x.build(1L << 39);
            x.pick(20);
            due("TEST " + fell + " falls", x.run(1 << fell), fell + 1);
            due("it fell", x.was(fell, 0), 1);
            due("the last", x.was(19, 0), fell == 19 ? 1 : NONE);
        }
    }

    @Says("each TEST of it in order passes")
    void p20OneThatPassesBetween() {
        // 0 falls, 1 passes, and 2 NEEDS 0: in THE PICK they come in this order.
        TestPicker x = new TestPicker();
        add(x, TEST, 1, 0, 0b0111);
        add(x, TEST, 1, 0, 0b1000);
        add(x, CHAINED, 2, 0, 0b10000);
        x.build(0b11111);
        x.pick(30000);
        due("in order", rowOf(x), row(0, 1, 2));
        due("0 falls", x.run(0b001), 2);
        due("2 does not run", verdictsOf(x, 3, 0), 109);
    }

    @Says("behind one that fell")
    void p20AFallOfBeforeKeepsNoneBack() {
        TestPicker x = tree();
        x.verdict(0, true);
        x.verdict(4, true);
        x.pick(30000);
        due("all run", x.run(0), 5);
        due("all passed", verdictsOf(x, 5, 0), 0);
        due("no VERDICT twice", x.count(2), 5);
    }

    @Says("THE PICK runs (that of the latest pick())")
    void p20TheLatestPick() {
        TestPicker x = tree();
        x.pick(30000);
        x.pick(2);
        due("two are picked", x.about(2), 0b00011);
        due("two run", x.run(0), 2);
        due("no others", verdictsOf(x, 5, 0), 999);
        x.turn(0, IDLE);
        x.tear(1);
        due("it stays what it was", x.run(0b00010), 2);
        due("they run", verdictsOf(x, 5, 0), 1999);
        due("a new one is of 4 alone", x.pick(30000), 1);
        due("it runs", x.run(0), 1);
    }

    @Says("how many VERDICTS came")
    void p20TwiceAndOfOthers() {
        TestPicker x = tree();
        x.pick(1);
        due("one is picked", x.about(2), 1);
        due("a set of others", x.run(0b11110), 1);
        due("they have none", verdictsOf(x, 5, 0), 9999);
        due("again", x.run(0b00001), 1);
        due("the new one stands", x.was(0, 0), 1);
        x.pick(0);
        due("a PICK of none", x.run(0b11111), 0);
        due("it stays", x.was(0, 0), 1);
    }

    @Says("do not run")
    void p20WhatDoesNotRunKeepsItsVerdict() {
        TestPicker x = tree();
        x.verdict(1, false);
        x.verdict(2, true);
        x.pick(30000);
        due("0 falls", x.run(0b00001), 2);
        due("1 and 2 keep theirs", verdictsOf(x, 5, 0), 10190);
    }

    @Says("BAD: bits of TESTS that there are not")
    void p20Bad() {
        TestPicker none = new TestPicker();
        due("no TESTS", none.run(1), BAD);
        TestPicker x = tree();
        x.pick(30000);
        for (int bit = 5; bit < 32; bit++) {
            due("bit " + bit, x.run(1 << bit), BAD);
            due("bit " + bit + " and all TESTS", x.run(1 << bit | 0b11111), BAD);
        }
        due("all bits", x.run(-1), BAD);
        due("nothing came", x.count(2), 0);
        TestPicker y = plain(20);
        y.build(1);
        y.pick(1);
        due("all twenty", y.run(0xfffff), 0);
        due("bit 20", y.run(0x100000), BAD);
        due("bit 31", y.run(LEAST), BAD);
    }

    @Says("STATE: there is no PICK.")
    void p20State() {
        TestPicker x = reaching(1);
        due("no BUILD", x.run(0), STATE);
        x.build(1);
        due("no pick()", x.run(1), STATE);
        x.pick(-1);
        due("a refused pick()", x.run(0), STATE);
        x.pick(1);
        x.build(1);
        due("a BUILD since", x.run(0), STATE);
        due("nothing came", x.count(2), 0);
        x.pick(1);
        due("now", x.run(0), 1);
        due("and again", x.run(0), 1);
    }

    // ---- 21 suspects

    @Says("All PARTS that are SUSPECT, told by asked(): how many.")
    void p21AllOrNone() {
        TestPicker x = reaching(ALL_PARTS);
        x.build(ALL_PARTS);
        due("none", x.suspects(), 0);
        due("none", x.asked(), 0);
        x.verdict(0, true);
        due("all", x.suspects(), 40);
        due("all", x.asked(), ALL_PARTS);
        x.verdict(0, false);
        due("none", x.suspects(), 0);
        due("none", x.asked(), 0);
    }

    @Says("STATE: no BUILD.")
    void p21State() {
        TestPicker x = reaching(1);
        due("no BUILD", x.suspects(), STATE);
        x.build(0);
        due("no CHANGE", x.suspects(), 0);
        TestPicker y = new TestPicker();
        y.build(ALL_PARTS);
        due("no TESTS", y.suspects(), 0);
    }

    // ---- 22 badWork

    @Says("Whether the PRESENT BUILD is BAD WORK: 1, 0.")
    void p22BadWork() {
        TestPicker x = plain(20);
        x.build(0);
        due("nothing fell", x.badWork(), 0);
        x.verdict(19, true);
        due("the last TEST fell", x.badWork(), 1);
        x.turn(19, IDLE);
        due("an IDLE one is a TEST", x.badWork(), 1);
        x.tear(19);
        due("its REACH is missing", x.badWork(), 1);
    }

    @Says("STATE.")
    void p22State() {
        TestPicker x = plain(1);
        due("no BUILD", x.badWork(), STATE);
        x.build(0);
        due("a BUILD", x.badWork(), 0);
        TestPicker y = new TestPicker();
        y.build(1);
        due("no TESTS", y.badWork(), 0);
    }

    // ---- 23 fewest

    @Says("THE FEWEST: how many TESTS; these by asked() (bits).")
    void p23Fewest() {
        TestPicker x = new TestPicker();
        due("no TESTS, no BUILDS", x.fewest(), 0);
        due("none", x.asked(), 0);
        x.test(TEST, 1, 0);
        due("no BUILDS", x.fewest(), 0);
        x.build(7);
        x.change(0);
        due("no VERDICTS", x.fewest(), 0);
        due("none, told by asked()", x.asked(), 0);
        x.verdict(0, true);
        due("one", x.fewest(), 1);
        due("which", x.asked(), 1);
    }

    @Says("SPENT.")
    void p23Spent() {
        TestPicker x = plain(13);
        x.build(5);
        x.change(0);
        for (int t = 0; t < 12; t++) {
            x.verdict(t, true);
        }
        due("twelve", x.fewest(), 1);
        x.change(0);
        x.verdict(12, true);
        due("thirteen", x.fewest(), SPENT);
        due("asked() stays", x.asked(), 5);
    }

    // ---- 24 missed

    @Says("The first BUILD in which a TEST of KIND 0 to 2 that is not FLAKY fell, and none of a set did")
    void p24FirstBuild() {
        TestPicker x = reaching(1, 1, 1);
        for (int b = 0; b < 60; b++) {
            x.build(1);
            if (b == 0 || b == 30) {
                x.verdict(0, true);
            }
            if (b == 30 || b == 59) {
                x.verdict(1, true);
            }
        }
        due("none of them", x.missed(0b000), 0);
        due("0", x.missed(0b001), 59);
        due("1", x.missed(0b010), 0);
        due("one that never fell", x.missed(0b100), 0);
        due("both", x.missed(0b011), NONE);
        due("all", x.missed(0b111), NONE);
    }

    @Says("a TEST of KIND 0 to 2")
    void p24Kinds() {
        for (int kind = 0; kind < 4; kind++) {
            TestPicker x = new TestPicker();
            x.test(TEST, 1, 0);
            x.test(kind, 1, 0);
            x.build(0);
            x.verdict(1, true);
            due("KIND " + kind, x.missed(0), kind == IDLE ? NONE : 0);
            due("KIND " + kind + ", in the set", x.missed(0b10), NONE);
        }
    }

    @Says("that is not FLAKY fell")
    void p24Flaky() {
        TestPicker x = plain(2);
        x.build(0);
        x.verdict(0, true);
        due("fell", x.missed(0), 0);
        x.build(0);
        x.verdict(0, false);
        due("FLAKY", x.missed(0), NONE);
        x.verdict(1, true);
        due("another one", x.missed(0), 1);
    }

    @Says("and none of a set did")
    void p24AnyOfTheSet() {
        TestPicker x = plain(2);
        x.test(IDLE, 1, 0);
        x.build(0);
        x.verdict(0, false);
        x.build(0);
        x.verdict(0, true);
        x.verdict(1, true);
        x.verdict(2, true);
        due("none", x.missed(0), 1);
        due("a FLAKY one of the set fell", x.missed(0b001), NONE);
        due("an IDLE one of the set fell", x.missed(0b100), NONE);
    }

    @Says("NONE: there is none.")
    void p24None() {
        TestPicker x = new TestPicker();
        due("no TESTS, no BUILDS", x.missed(0), NONE);
        x.test(TEST, 1, 0);
        due("no BUILDS", x.missed(0), NONE);
        due("no BUILDS, a set", x.missed(1), NONE);
        x.build(0);
        due("no VERDICTS", x.missed(0), NONE);
        x.verdict(0, false);
        due("passed", x.missed(0), NONE);
        x.verdict(0, true);
        due("fell", x.missed(0), 0);
    }

    @Says("BAD: bits of TESTS that there are not.")
    void p24Bad() {
        TestPicker none = new TestPicker();
        for (int bit = 0; bit < 32; bit++) {
            due("no TESTS, bit " + bit, none.missed(1 << bit), BAD);
        }
        TestPicker x = plain(3);
        for (int bit = 3; bit < 32; bit++) {
            due("bit " + bit, x.missed(1 << bit), BAD);
            due("bit " + bit + " and all TESTS", x.missed(1 << bit | 0b111), BAD);
        }
        due("all bits", x.missed(-1), BAD);
        TestPicker y = plain(20);
        due("all twenty", y.missed(0xfffff), NONE);
        due("bit 20", y.missed(0x100000), BAD);
    }
}
