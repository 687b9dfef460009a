/** Promises 11 to 15, sentence by sentence, at their boundaries. */
public final class BuildsCallsTest extends Sentences {
    public static void main(String[] args) throws IllegalAccessException {
        new BuildsCallsTest().testAll();
    }

    // ---- 11 build

    @Says("A BUILD with a CHANGE: its number; it is the PRESENT one.")
    void p11Number() {
        TestPicker x = plain(1);
        due("first", x.build(0), 0);
        due("BAD", x.build(-1), BAD);
        due("a refused one takes no number", x.build(ALL_PARTS), 1);
        x.verdict(0, true);
        due("a VERDICT comes there", x.was(0, 1), 1);
    }

    @Says("BAD: bits above 39")
    void p11BitsAbove() {
        TestPicker x = new TestPicker();
        for (int bit = 40; bit < 64; bit++) {
            due("bit " + bit, x.build(1L << bit), BAD);
            due("bit " + bit + " and all below 40", x.build(1L << bit | ALL_PARTS), BAD);
        }
        due("all bits", x.build(-1L), BAD);
        due("the greatest", x.build(Long.MAX_VALUE), BAD);
        due("none", x.count(1), 0);
        due("bit 39", x.build(1L << 39), 0);
    }

    @Says("FULL.")
    void p11Full() {
        TestPicker x = new TestPicker();
        builds(x, 59, 1);
        due("the last", x.build(2), 59);
        due("FULL", x.build(4), FULL);
        due("FULL again", x.build(0), FULL);
        due("sixty", x.count(1), 60);
        x.change(59);
        due("the last stays", x.asked(), 2);
    }

    @Says("(THE PICK that was told is none any more.)")
    void p11ThePickGoes() {
        TestPicker x = reaching(1);
        x.build(1);
        x.pick(1);
        x.build(1);
        due("picked", x.picked(0), NONE);
        for (int what = 0; what < 3; what++) {
            due("about", x.about(what), NONE);
        }
        due("run", x.run(0), STATE);
        due("no VERDICT", x.count(2), 0);
        x.pick(1);
        due("a new one", x.picked(0), 0);
    }

    @Says("(THE PICK that was told is none any more.)")
    void p11ARefusedBuildLeavesThePick() {
        TestPicker x = reaching(1);
        x.build(1);
        x.pick(1);
        due("BAD", x.build(1L << 40), BAD);
        due("picked", x.picked(0), 0);
        builds(x, 59, 1);
        x.pick(1);
        due("FULL", x.build(1), FULL);
        due("picked", x.picked(0), 0);
        due("run", x.run(0), 1);
    }

    // ---- 12 verdict

    @Says("A TEST passed (fell) in the PRESENT BUILD: 1 if it has a VERDICT there, which goes, else 0.")
    void p12TheOldOneGoes() {
        boolean[] both = {false, true};
        for (boolean first : both) {
            for (boolean second : both) {
                TestPicker x = plain(2);
                x.build(0);
                due("first", x.verdict(0, first), 0);
                due("was", x.was(0, 0), first ? 1 : 0);
                due("second", x.verdict(0, second), 1);
                due("was", x.was(0, 0), second ? 1 : 0);
                due("one VERDICT", x.count(2), 1);
                due("fell", x.often(0, 0), second ? 1 : 0);
                due("passed", x.often(0, 1), second ? 0 : 1);
                due("the other TEST", x.was(1, 0), NONE);
            }
        }
    }

    @Says("A TEST passed (fell) in the PRESENT BUILD: 1 if it has a VERDICT there, which goes, else 0.")
    void p12OfARun() {
        TestPicker x = reaching(1);
        x.build(1);
        x.pick(1);
        x.run(1);
        due("it has one of a run", x.verdict(0, false), 1);
        due("which goes", x.was(0, 0), 0);
    }

    @Says("A TEST passed (fell) in the PRESENT BUILD")
    void p12EachBuildForItself() {
        TestPicker x = plain(1);
        x.test(IDLE, 1, 0);
        for (int b = 0; b < 60; b++) {
            x.build(0);
            due("none there yet", x.verdict(0, b % 2 == 0), 0);
        }
        due("the first", x.was(0, 0), 1);
        due("the last", x.was(0, 59), 0);
        due("an IDLE one", x.verdict(1, true), 0);
        due("VERDICTS", x.count(2), 61);
    }

    @Says("BAD; STATE: no BUILD.")
    void p12Refused() {
        TestPicker x = plain(1);
        due("no BUILD, fell", x.verdict(0, true), STATE);
        due("no BUILD, passed", x.verdict(0, false), STATE);
        for (int t : outside(0)) {
            due("no BUILD, TEST " + t, x.verdict(t, true), BAD);
        }
        x.build(0);
        due("nothing came", x.was(0, 0), NONE);
        for (int t : outside(0)) {
            due("TEST " + t, x.verdict(t, false), BAD);
        }
        due("no VERDICTS", x.count(2), 0);
    }

    // ---- 13 was

    @Says("The VERDICT of a TEST in a BUILD: 0 passed, 1 fell; NONE.")
    void p13InTheFirstAndTheLast() {
        TestPicker x = plain(20);
        for (int b = 0; b < 60; b++) {
            x.build(0);
            x.verdict(19, b % 3 == 0);
        }
        for (int b = 0; b < 60; b++) {
            due("BUILD " + b, x.was(19, b), b % 3 == 0 ? 1 : 0);
            due("of another", x.was(18, b), NONE);
        }
    }

    @Says("BAD.")
    void p13Refused() {
        TestPicker x = plain(2);
        due("no BUILD", x.was(0, 0), BAD);
        builds(x, 2, 0);
        for (int t : outside(1)) {
            due("TEST " + t, x.was(t, 0), BAD);
        }
        for (int b : outside(1)) {
            due("BUILD " + b, x.was(0, b), BAD);
        }
        builds(x, 58, 0);
        for (int b : outside(59)) {
            due("BUILD " + b + " of 60", x.was(0, b), BAD);
        }
    }

    // ---- 14 change

    @Says("The CHANGE of a BUILD, told by asked(): 1.")
    void p14Change() {
        TestPicker x = new TestPicker();
        for (int b = 0; b < 60; b++) {
            x.build(1L << b % 40);
        }
        for (int b = 0; b < 60; b++) {
            due("BUILD " + b, x.change(b), 1);
            due("told", x.asked(), 1L << b % 40);
        }
    }

    @Says("BAD.")
    void p14Refused() {
        TestPicker x = new TestPicker();
        for (int b : outside(-1)) {
            due("BUILD " + b + " of none", x.change(b), BAD);
        }
        x.build(5);
        x.change(0);
        for (int b : outside(0)) {
            due("BUILD " + b + " of one", x.change(b), BAD);
        }
        due("asked() stays", x.asked(), 5);
        builds(x, 59, 6);
        for (int b : outside(59)) {
            due("BUILD " + b + " of sixty", x.change(b), BAD);
        }
        due("asked() stays", x.asked(), 5);
    }

    // ---- 15 often

    @Says("How many BUILDS there are in which a TEST fell (what = 0), passed (1), has none (2).")
    void p15Often() {
        TestPicker x = plain(3);
        for (int what = 0; what < 3; what++) {
            due("no BUILDS, what " + what, x.often(0, what), 0);
        }
        for (int b = 0; b < 60; b++) {
            x.build(0);
            x.verdict(0, true);
            x.verdict(1, false);
        }
        int[][] often = {{60, 0, 0}, {0, 60, 0}, {0, 0, 60}};
        for (int t = 0; t < 3; t++) {
            for (int what = 0; what < 3; what++) {
                due("TEST " + t + ", what " + what, x.often(t, what), often[t][what]);
            }
        }
    }

    @Says("BAD.")
    void p15Refused() {
        TestPicker x = plain(1);
        x.build(0);
        for (int what : outside(2)) {
            due("what " + what, x.often(0, what), BAD);
        }
        for (int t : outside(0)) {
            due("TEST " + t, x.often(t, 0), BAD);
        }
    }
}
