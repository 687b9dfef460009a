/** The document's terms from THE PICK to THE FEWEST: sentence by sentence, at their boundaries. */
public final class PickTermsTest extends Sentences {
    public static void main(String[] args) throws IllegalAccessException {
        new PickTermsTest().testAll();
    }

    /** A chain of three, 0 needed by 1 needed by 2, which reach the PARTS 0, 1 and 2. */
    private static TestPicker chainOfThree() {
        TestPicker x = new TestPicker();
        add(x, TEST, 1, 0, 0b001);
        add(x, CHAINED, 1, 0, 0b010);
        add(x, CHAINED, 1, 1, 0b100);
        x.build(0b111);
        return x;
    }

    // ---- THE PICK

    @Says("THE PICK, for a time T in the PRESENT BUILD")
    void pickOfThePresentBuild() {
        TestPicker x = reaching(1, 2);
        x.build(1);
        x.build(2);
        x.pick(30000);
        due("what the PRESENT one changed", rowOf(x), row(1));
        due("its PARTS", x.about(1), 1);
        x.build(0);
        due("nothing changed", x.pick(30000), 0);
    }

    @Says("SEEN are no PARTS at first.")
    void seenIsEmptyAtFirst() {
        TestPicker x = reaching(1, 2);
        x.build(3);
        due("first", x.pick(2), 2);
        due("and again", x.pick(2), 2);
        due("its PARTS", x.about(1), 2);
    }

    @Says("Each time, of the TESTS that are not picked")
    void noneIsPickedTwice() {
        TestPicker x = reaching(0b11, 0b01);
        x.build(0b111);
        due("one", x.pick(30000), 1);
        due("its time", x.about(0), 1);
        due("no second", x.picked(1), NONE);
    }

    @Says("and not IDLE, and in whose CHAIN there is no IDLE one")
    void idleInTheChain() {
        TestPicker x = chainOfThree();
        due("all", x.pick(30000), 3);
        x.turn(0, IDLE);
        due("the lowest is IDLE: pick", x.pick(30000), 0);
        due("the lowest is IDLE: best", x.best(30000), 0);
        x.turn(0, SLOW);
        due("it is no more: pick", x.pick(30000), 3);
        due("it is no more: best", x.best(30000), 3);
    }

    @Says("nor one of which the REACH is missing")
    void missingInTheChain() {
        TestPicker x = chainOfThree();
        x.tear(2);
        due("missing in 2: pick", x.pick(30000), 2);
        due("missing in 2: best", x.best(30000), 2);
        due("missing in 2: which", x.asked(), 0b011);
        x.anew(2);
        x.tear(1);
        due("missing in 1: pick", x.pick(30000), 1);
        due("missing in 1: best", x.best(30000), 1);
        due("missing in 1: which", x.asked(), 0b001);
        x.anew(1);
        x.tear(0);
        due("missing in 0: pick", x.pick(30000), 0);
        due("missing in 0: best", x.best(30000), 0);
    }

    @Says("nor one of which the REACH is missing")
    void ofNoPartsIsNotMissing() {
        TestPicker x = chainOfThree();
        x.anew(0);
        x.anew(1);
        due("it is there, of no PARTS", x.pick(30000), 3);
        due("which", rowOf(x), row(0, 1, 2));
    }

    @Says("its COST is the sum of TIMES in its CHAIN that are not picked")
    void costOfTheWholeChain() {
        TestPicker x = new TestPicker();
        add(x, TEST, 1000, 0, 0);
        add(x, CHAINED, 1000, 0, 0);
        add(x, CHAINED, 1000, 1, 1);
        x.build(1);
        due("2999", x.pick(2999), 0);
        due("3000", x.pick(3000), 3);
        x.turn(0, SLOW);
        due("4999", x.pick(4999), 0);
        due("5000", x.pick(5000), 3);
    }

    @Says("its COST is the sum of TIMES in its CHAIN that are not picked")
    void whatIsPickedCostsNoMore() {
        TestPicker x = new TestPicker();
        add(x, TEST, 5, 0, 0b001);
        add(x, CHAINED, 5, 0, 0b010);
        add(x, TEST, 6, 0, 0b100);
        x.build(0b111);
        x.pick(16);
        due("1 for 5 ahead of 1 for 6", rowOf(x), row(0, 1, 2));
        due("all fit", x.about(0), 16);
        due("just two", x.pick(10), 2);
    }

    @Says("its GAIN how many PARTS of the CHANGE that are not SEEN")
    void gainOfTheChangeAlone() {
        TestPicker x = reaching(0b1110, 0b0001, 0b0011);
        x.build(0b0011);
        x.pick(1);
        due("of those that changed", rowOf(x), row(2));
        due("what is SEEN is no GAIN", x.pick(30000), 1);
    }

    @Says("these reach together")
    void whatTwoReachCountsOnce() {
        TestPicker x = new TestPicker();
        add(x, TEST, 2, 0, 0b011);
        add(x, CHAINED, 1, 0, 0b110);
        add(x, TEST, 5, 0, 0b111111000);
        x.build(0b111111111);
        x.pick(5);
        due("6 for 5 is more than 3 for 3", rowOf(x), row(2));
    }

    @Says("taken so many times: 16 and its own HEAT more")
    void heatOfOneIsFelt() {
        TestPicker x = reaching(1, 1);
        x.build(1);
        x.verdict(1, true);
        builds(x, 8, 1);
        x.pick(1);
        due("fell 8 ago: 17 times", rowOf(x), row(1));
        x.build(1);
        x.pick(1);
        due("fell 9 ago: 16 times", rowOf(x), row(0));
    }

    @Says("taken so many times: 16 and its own HEAT more")
    void sixteenWithoutHeat() {
        // 0 fell last: (16 + 128) for 9 is as much as 16 for 1; a little cheaper and it goes ahead of 0.
        TestPicker x = new TestPicker();
        add(x, TEST, 9, 0, 1);
        add(x, TEST, 1, 0, 1);
        add(x, TEST, 10, 0, 1);
        x.build(1);
        x.verdict(0, true);
        x.verdict(2, true);
        x.build(1);
        x.pick(9);
        due("as much: the least", rowOf(x), row(0));
        x.turn(0, IDLE);
        x.pick(10);
        due("144 for 10 is less than 16 for 1", rowOf(x), row(1));
    }

    @Says("its own HEAT")
    void heatOfTheChainIsNotItsOwn() {
        TestPicker x = new TestPicker();
        add(x, TEST, 1, 0, 0);
        add(x, CHAINED, 1, 0, 0b01);
        add(x, TEST, 2, 0, 0b01);
        x.build(1);
        x.verdict(0, true);
        x.build(1);
        x.pick(2);
        due("8 and 8: the least", rowOf(x), row(0, 1));
        x.test(TEST, 1, 0);
        reachAll(x, 3, 1);
        x.pick(2);
        due("16 is more", rowOf(x), row(3));
    }

    @Says("taken so many times: 16 and its own HEAT more")
    void theMostHeat() {
        // 271 for 1000 lies between 16 for 60 and 16 for 59.
        for (int time = 59; time <= 60; time++) {
            TestPicker x = new TestPicker();
            add(x, TEST, 1000, 0, 1);
            add(x, TEST, time, 0, 2);
            for (int b = 0; b < 8; b++) {
                x.build(3);
                x.verdict(0, true);
            }
            x.build(3);
            due("HEAT", x.told(0, 3), 255);
            x.pick(30000);
            due("beside 16 for " + time, rowOf(x), time == 59 ? row(1, 0) : row(0, 1));
        }
    }

    @Says("Of those with GAIN above 0")
    void noGainNoPick() {
        TestPicker x = reaching(0, 4);
        x.build(3);
        due("none", x.pick(30000), 0);
        x.reach(0, 0, 1);
        due("GAIN of one PART", x.pick(30000), 1);
        x.build(0);
        due("nothing changed", x.pick(30000), 0);
    }

    @Says("and COST not above what is left of T")
    void costOfAllThatIsLeft() {
        TestPicker x = new TestPicker();
        add(x, TEST, 10, 0, 0b0011);
        add(x, TEST, 20, 0, 0b1100);
        x.build(0b1111);
        due("9", x.pick(9), 0);
        due("10", x.pick(10), 1);
        due("29", x.pick(29), 1);
        due("30", x.pick(30), 2);
        due("0", x.pick(0), 0);
    }

    @Says("and COST not above what is left of T")
    void aDearOneIsPassedOver() {
        TestPicker x = new TestPicker();
        add(x, TEST, 10, 0, 0xffff);
        add(x, TEST, 9, 0, 1);
        x.build(0xffff);
        x.pick(9);
        due("the best by far is too dear", rowOf(x), row(1));
    }

    @Says("the one with the greatest GAIN by COST (a fraction)")
    void fractionsAreNotRounded() {
        // 39/999 is less than 40/1000 by 1/25000 or so, both are 0 as whole numbers.
        TestPicker x = new TestPicker();
        add(x, TEST, 999, 0, ALL_PARTS >> 1);
        add(x, TEST, 1000, 0, ALL_PARTS);
        x.build(ALL_PARTS);
        x.pick(1000);
        due("the greater", rowOf(x), row(1));
        // 38/950 is the same as 40/1000.
        TestPicker y = new TestPicker();
        add(y, TEST, 1000, 0, ALL_PARTS);
        add(y, TEST, 950, 0, ALL_PARTS >> 2);
        y.build(ALL_PARTS);
        y.pick(1000);
        due("the same: the least", rowOf(y), row(0));
    }

    @Says("the one with the greatest GAIN by COST")
    void gainByCostNotGain() {
        TestPicker x = new TestPicker();
        add(x, TEST, 10, 0, 0b1110);
        add(x, TEST, 3, 0, 0b0001);
        x.build(0b1111);
        x.pick(30000);
        due("1 for 3 ahead of 3 for 10", rowOf(x), row(1, 0));
    }

    @Says("of these the least")
    void equalOnesByNumber() {
        TestPicker x = reaching(1, 1, 1);
        x.build(1);
        x.pick(1);
        due("the first", rowOf(x), row(0));
        x.turn(0, IDLE);
        x.pick(1);
        due("the second", rowOf(x), row(1));
    }

    @Says("those of its CHAIN that are not picked are picked, what is NEEDED ahead")
    void neededAhead() {
        TestPicker x = new TestPicker();
        add(x, TEST, 1, 0, 0);
        add(x, TEST, 1, 0, 0);
        add(x, CHAINED, 1, 1, 0);
        add(x, TEST, 1, 0, 0);
        add(x, CHAINED, 1, 2, 1);
        add(x, CHAINED, 1, 2, 2);
        x.build(3);
        x.pick(30000);
        due("4's CHAIN, then what is left of 5's", rowOf(x), row(1, 2, 4, 5));
        due("time", x.about(0), 4);
    }

    @Says("what they reach is SEEN")
    void whatTheChainReachesIsSeen() {
        TestPicker x = new TestPicker();
        add(x, TEST, 1, 0, 0b0011);
        add(x, CHAINED, 1, 0, 0b1100);
        add(x, TEST, 3, 0, 0b0001);
        x.build(0b1111);
        due("2 gains nothing any more", x.pick(30000), 2);
        due("PARTS", x.about(1), 4);
    }

    // ---- THE BEST

    @Says("of all sets of TESTS that may be picked so, in which all CHAINS of theirs are, too")
    void chainsAreInTheBest() {
        TestPicker x = chainOfThree();
        x.anew(0);
        x.anew(1);
        due("1 PART", x.best(30000), 1);
        due("with its CHAIN", x.asked(), 0b111);
        due("the CHAIN does not fit", x.best(2), 0);
        due("then none", x.asked(), 0);
    }

    @Says("of all sets of TESTS that may be picked so")
    void noneOfAnEarlierSearch() {
        TestPicker x = new TestPicker();
        for (int t = 0; t < 12; t++) {
            add(x, TEST, 1, 0, 1L << t);
        }
        x.build(ALL_PARTS);
        due("twelve", x.best(30000), 12);
        x.turn(11, IDLE);
        due("one of eleven", x.best(1), 1);
        due("the least, not the one that may not be picked now", x.asked(), 1);
        due("eleven", x.best(30000), 11);
        due("without it", x.asked(), 0x7ff);
    }

    @Says("and whose TIMES together are not above T")
    void timesOfTheBest() {
        TestPicker x = new TestPicker();
        for (int t = 0; t < 10; t++) {
            add(x, SLOW, 1000, 0, 1L << t);
        }
        x.build(ALL_PARTS);
        due("30000", x.best(30000), 10);
        due("29999", x.best(29999), 9);
        due("the least bits of nine", x.asked(), 0b0111111111);
        due("3000", x.best(3000), 1);
        due("2999", x.best(2999), 0);
        due("0", x.best(0), 0);
    }

    @Says("the one that reaches most PARTS of the CHANGE")
    void mostPartsOfTheChange() {
        TestPicker x = reaching(0b11111100, 0b00000011);
        x.build(0b00000111);
        due("two of the CHANGE, not six others", x.best(1), 2);
        due("which", x.asked(), 0b10);
        x.build(0);
        due("no CHANGE", x.best(30000), 0);
        due("none is the least", x.asked(), 0);
    }

    @Says("of these with the least TIME, then with the least bits")
    void leastTimeThenLeastBits() {
        TestPicker x = new TestPicker();
        add(x, TEST, 3, 0, 1);
        add(x, TEST, 2, 0, 1);
        add(x, TEST, 2, 0, 1);
        add(x, TEST, 1, 0, 2);
        add(x, TEST, 1, 0, 2);
        x.build(3);
        x.best(30000);
        due("least time, least bits", x.asked(), 0b01010);
        x.turn(1, IDLE);
        x.turn(3, IDLE);
        x.best(30000);
        due("the next", x.asked(), 0b10100);
        x.turn(2, SLOW);
        x.best(30000);
        due("3 is less than 6", x.asked(), 0b10001);
    }

    @Says("then with the least bits")
    void leastBitsMayBeMoreTests() {
        TestPicker x = new TestPicker();
        add(x, TEST, 1, 0, 0b001);
        add(x, TEST, 1, 0, 0b010);
        add(x, TEST, 1, 0, 0b100);
        add(x, TEST, 3, 0, 0b111);
        x.build(0b111);
        due("three PARTS", x.best(3), 3);
        due("three TESTS, but lesser bits", x.asked(), 0b0111);
    }

    @Says("(SPENT: more than 12 TESTS may be picked so.)")
    void twelveMayBePicked() {
        TestPicker x = plain(20);
        x.build(ALL_PARTS);
        for (int t = 0; t < 8; t++) {
            due("too many", x.best(30000), SPENT);
            if (t % 2 == 0) {
                x.turn(t, IDLE);
            } else {
                x.tear(t);
            }
        }
        due("twelve, of no PARTS", x.best(30000), 0);
        for (int t = 8; t < 20; t++) {
            reachAll(x, t, 1L << t);
        }
        due("twelve", x.best(30000), 12);
        due("the last twelve", x.asked(), 0xfff00);
        x.anew(1);
        due("thirteen", x.best(30000), SPENT);
        due("it did not answer", x.asked(), 0xfff00);
    }

    @Says("(SPENT: more than 12 TESTS may be picked so.)")
    void spentWithoutTimeOrGain() {
        TestPicker x = plain(13);
        x.build(0);
        due("no time, no CHANGE, no REACH", x.best(0), SPENT);
        x.tear(12);
        due("twelve", x.best(0), 0);
    }

    @Says("(SPENT: more than 12 TESTS may be picked so.)")
    void spentCountsWholeChains() {
        TestPicker x = plain(12);
        x.test(CHAINED, 1, 11);
        x.build(1);
        due("thirteen", x.best(0), SPENT);
        x.tear(11);
        due("eleven: neither the missing one nor what NEEDS it", x.best(0), 0);
    }

    // ---- SUSPECT and BAD WORK

    @Says("SUSPECT is a PART of the CHANGE that a TEST reaches which fell in the PRESENT BUILD")
    void suspectsOfTheChange() {
        TestPicker x = reaching(0b0110 | 1L << 39);
        x.build(0b0011 | 1L << 39);
        due("nothing fell", x.suspects(), 0);
        x.verdict(0, true);
        due("fell", x.suspects(), 2);
        due("of the CHANGE", x.asked(), 0b0010 | 1L << 39);
        x.build(0b0011);
        due("not in the PRESENT one", x.suspects(), 0);
        due("none", x.asked(), 0);
    }

    @Says("SUSPECT is a PART of the CHANGE that a TEST reaches")
    void aMissingReachSuspectsNothing() {
        TestPicker x = reaching(1);
        x.build(1);
        x.verdict(0, true);
        x.tear(0);
        due("missing", x.suspects(), 0);
        due("it fell all the same", x.badWork(), 1);
    }

    @Says("and is not FLAKY")
    void flakySuspectsNothing() {
        TestPicker x = reaching(1);
        x.build(0);
        x.verdict(0, false);
        x.build(0);
        x.verdict(0, true);
        x.build(1);
        x.verdict(0, true);
        due("FLAKY", x.told(0, 4), 1);
        due("suspects", x.suspects(), 0);
        due("badWork", x.badWork(), 0);
    }

    @Says("and none does that passed in it")
    void whatPassedClears() {
        TestPicker x = reaching(0b11, 0b10, 0b01);
        x.build(0b11);
        x.verdict(1, false);
        x.build(0b11);
        x.verdict(0, true);
        due("one that passed before", x.suspects(), 2);
        x.verdict(1, false);
        due("one that passed in it", x.suspects(), 1);
        due("what is left", x.asked(), 0b01);
        x.verdict(2, false);
        due("two that passed", x.suspects(), 0);
        x.verdict(1, true);
        due("its VERDICT went", x.suspects(), 1);
        due("which", x.asked(), 0b10);
        x.tear(2);
        due("a missing REACH clears nothing", x.suspects(), 2);
    }

    @Says("The PRESENT BUILD is BAD WORK if a TEST that is not FLAKY fell in it.")
    void badWorkOfThePresentBuild() {
        TestPicker x = reaching(1, 1);
        x.build(1);
        due("no VERDICTS", x.badWork(), 0);
        x.verdict(0, false);
        due("passed", x.badWork(), 0);
        x.verdict(1, true);
        due("one fell", x.badWork(), 1);
        x.verdict(1, false);
        due("it passed after all", x.badWork(), 0);
        x.verdict(1, true);
        x.build(1);
        due("a new one", x.badWork(), 0);
    }

    // ---- THE FEWEST

    @Says("of all sets of TESTS that are not FLAKY, not IDLE")
    void fewestWithoutIdleAndFlaky() {
        TestPicker x = reaching(1, 1, 1);
        x.build(1);
        for (int t = 0; t < 3; t++) {
            x.verdict(t, true);
        }
        x.fewest();
        due("0", x.asked(), 0b001);
        x.turn(0, IDLE);
        x.fewest();
        due("0 is IDLE", x.asked(), 0b010);
        x.build(0);
        x.verdict(1, false);
        x.fewest();
        due("1 is FLAKY", x.asked(), 0b100);
        x.verdict(2, false);
        due("2 is, too", x.fewest(), 0);
        due("none", x.asked(), 0);
    }

    @Says("so that in each BUILD in which one such TEST fell one of the set fell")
    void eachBuildIsShown() {
        TestPicker x = reaching(1, 1, 1);
        int[] fell = {0b011, 0b000, 0b110, 0b101};
        for (int set : fell) {
            x.build(1);
            for (int t = 0; t < 3; t++) {
                if ((set >> t & 1) == 1) {
                    x.verdict(t, true);
                }
            }
        }
        due("two of three", x.fewest(), 2);
        due("least bits", x.asked(), 0b011);
        builds(x, 55, 1);
        x.build(1);
        x.verdict(2, true);
        due("and in the last BUILD", x.fewest(), 2);
        due("least bits", x.asked(), 0b101);
    }

    @Says("of all sets of TESTS that are not FLAKY, not IDLE")
    void fewestOfNoneOfAnEarlierSearch() {
        TestPicker x = plain(12);
        x.build(0);
        for (int t = 0; t < 12; t++) {
            x.verdict(t, true);
        }
        due("one of twelve", x.fewest(), 1);
        x.turn(11, IDLE);
        due("one of eleven", x.fewest(), 1);
        due("the least", x.asked(), 1);
        x.verdict(0, false);
        due("one of ten", x.fewest(), 1);
        due("the least", x.asked(), 2);
    }

    @Says("so that in each BUILD in which one such TEST fell one of the set fell")
    void nothingEverFell() {
        TestPicker x = reaching(1, 1);
        due("no BUILD", x.fewest(), 0);
        x.build(1);
        x.verdict(0, false);
        due("nothing fell", x.fewest(), 0);
        due("none", x.asked(), 0);
        x.verdict(1, true);
        due("one fell", x.fewest(), 1);
        x.verdict(1, false);
        due("that VERDICT went", x.fewest(), 0);
    }

    @Says("the one with fewest, of these with the least TIME, then with the least bits")
    void fewestThenTimeThenBits() {
        TestPicker x = new TestPicker();
        add(x, TEST, 1, 0, 1);
        add(x, TEST, 1, 0, 1);
        add(x, TEST, 1000, 0, 1);
        add(x, TEST, 999, 0, 1);
        add(x, TEST, 999, 0, 1);
        for (int b = 0; b < 2; b++) {
            x.build(1);
            x.verdict(b, true);
            x.verdict(2, true);
            x.verdict(3, true);
            x.verdict(4, true);
        }
        due("one", x.fewest(), 1);
        due("fewest, least time, least bits", x.asked(), 0b01000);
        x.turn(3, SLOW);
        x.fewest();
        due("3 is dearer now", x.asked(), 0b10000);
        x.turn(4, IDLE);
        x.fewest();
        due("1000 is less than 2997", x.asked(), 0b00100);
    }

    @Says("(SPENT: more than 12 such TESTS ever fell.)")
    void twelveEverFell() {
        TestPicker x = plain(20);
        for (int t = 0; t < 20; t++) {
            reachAll(x, t, 1);
        }
        x.build(1);
        for (int t = 8; t < 20; t++) {
            x.verdict(t, true);
        }
        due("twelve", x.fewest(), 1);
        due("the least", x.asked(), 0x100);
        x.verdict(0, false);
        due("one that passed does not count", x.fewest(), 1);
        x.verdict(0, true);
        due("thirteen", x.fewest(), SPENT);
        x.turn(0, IDLE);
        due("an IDLE one is not such", x.fewest(), 1);
        x.turn(0, SLOW);
        due("thirteen", x.fewest(), SPENT);
        x.build(2);
        x.verdict(0, false);
        due("a FLAKY one is not such", x.fewest(), 1);
        x.build(1);
        x.verdict(1, true);
        due("in another BUILD", x.fewest(), SPENT);
        due("asked() stays", x.asked(), 0x100);
    }

    @Says("(SPENT: more than 12 such TESTS ever fell.)")
    void allTwentyFell() {
        TestPicker x = plain(20);
        x.build(0);
        for (int t = 0; t < 20; t++) {
            x.verdict(t, true);
        }
        due("twenty", x.fewest(), SPENT);
        for (int t = 0; t < 8; t++) {
            due("still more than twelve", x.fewest(), SPENT);
            x.verdict(t, false);
        }
        due("twelve", x.fewest(), 1);
        due("which", x.asked(), 0x100);
    }

    @Says("(SPENT: more than 12 such TESTS ever fell.)")
    void twelveThatAreAllNeeded() {
        TestPicker x = plain(20);
        for (int t = 8; t < 20; t++) {
            x.build(0);
            x.verdict(t, true);
        }
        due("twelve", x.fewest(), 12);
        due("which", x.asked(), 0xfff00);
    }
}
