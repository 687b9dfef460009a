import java.util.ArrayList;
import java.util.Arrays;
import java.util.List;
import java.util.function.Supplier;
import java.util.function.ToIntFunction;

/**
 * "What is refused changes nothing but finding(), findings()": in pickers of many states each call that is
 * refused there is made, and all that a picker tells is held against what it told before. Each call has a
 * picker of its own, for 512 calls are soon made by looking.
 */
public final class RefusalsTest extends Sentences {
    private record Refused(String call, ToIntFunction<TestPicker> asked, int answer, int finding) {
    }

    private final List<Refused> calls = new ArrayList<>();

    public static void main(String[] args) throws IllegalAccessException {
        new RefusalsTest().testAll();
    }

    private void bad(String call, ToIntFunction<TestPicker> asked) {
        calls.add(new Refused(call, asked, BAD, 0));
    }

    private void refused(String call, ToIntFunction<TestPicker> asked, int answer) {
        calls.add(new Refused(call, asked, answer, 0));
    }

    private void found(String call, ToIntFunction<TestPicker> asked, int finding) {
        calls.add(new Refused(call, asked, FINDING, finding));
    }

    /** All that a picker tells but its findings. */
    private static long[] told(TestPicker x) {
        long[] all = new long[29];
        all[0] = x.digest();
        all[1] = x.asked();
        for (int what = 0; what < 3; what++) {
            all[2 + what] = x.about(what);
            all[5 + what] = x.count(what);
        }
        for (int i = 0; i <= 20; i++) {
            all[8 + i] = x.picked(i);
        }
        return all;
    }

    private static int[] findings(TestPicker x) {
        return new int[] {x.finding(), x.findings(1), x.findings(2), x.findings(3), x.findings(4)};
    }

    /** Makes each call; a PICK runs behind it as it would have run without it. */
    private void eachChangesNothing(Supplier<TestPicker> state, int verdicts) {
        for (Refused r : calls) {
            TestPicker x = state.get();
            long[] before = told(x);
            int[] due = findings(x);
            due(r.call, r.asked.applyAsInt(x), r.answer);
            due(r.call + " changes nothing", Arrays.equals(told(x), before) ? 1 : 0, 1);
            if (r.finding != 0) {
                due[0] = r.finding;
                due[r.finding]++;
            }
            due(r.call + ": its FINDING", Arrays.equals(findings(x), due) ? 1 : 0, 1);
            due(r.call + ": a run behind it", x.run(0), verdicts);
        }
        calls.clear();
    }

    /** What is BAD where there are so many TESTS and BUILDS. */
    private void badCalls(int tests, int builds) {
        for (int t : new int[] {-1, tests, LEAST, GREATEST}) {
            bad("turn " + t, x -> x.turn(t, 1));
            bad("reach " + t, x -> x.reach(t, 0, 1));
            bad("byteOf " + t, x -> x.byteOf(t, 0));
            bad("tear " + t, x -> x.tear(t));
            bad("anew " + t, x -> x.anew(t));
            bad("copy " + t, x -> x.copy(t, 0, 0, 0, 1));
            bad("copy to " + t, x -> x.copy(0, 0, t, 0, 1));
            bad("told " + t, x -> x.told(t, 0));
            bad("time " + t, x -> x.time(t, 0));
            bad("verdict " + t, x -> x.verdict(t, true));
            bad("was " + t, x -> x.was(t, 0));
            bad("often " + t, x -> x.often(t, 0));
            bad("test that needs " + t, x -> x.test(CHAINED, 1, t));
        }
        for (int b : new int[] {-1, builds, LEAST, GREATEST}) {
            bad("change " + b, x -> x.change(b));
            bad("was in " + b, x -> x.was(0, b));
        }
        for (int kind : new int[] {-1, 4, LEAST, GREATEST}) {
            bad("test of kind " + kind, x -> x.test(kind, 1, 0));
            bad("turn to " + kind, x -> x.turn(0, kind));
            bad("time of kind " + kind, x -> x.time(0, kind));
        }
        for (int time : new int[] {-1, 30001, LEAST, GREATEST}) {
            bad("pick " + time, x -> x.pick(time));
            bad("best " + time, x -> x.best(time));
            bad("test of time " + time, x -> x.test(TEST, time, 0));
        }
        for (int set : new int[] {1 << tests, -1, LEAST, 1 << 30}) {
            bad("run " + set, x -> x.run(set));
            bad("missed " + set, x -> x.missed(set));
        }
        for (int far : new int[] {-1, 7, LEAST, GREATEST}) {
            bad("told " + far, x -> x.told(0, far));
            bad("often " + far, x -> x.often(0, far));
            bad("about " + far, x -> x.about(far));
            bad("count " + far, x -> x.count(far));
            bad("findings " + far, x -> x.findings(far));
        }
        bad("test of time 0", x -> x.test(TEST, 0, 0));
        bad("test of time 1001", x -> x.test(SLOW, 1001, 0));
        bad("turn to CHAINED", x -> x.turn(0, CHAINED));
        bad("reach 256", x -> x.reach(0, 0, 256));
        bad("reach -1", x -> x.reach(0, 0, -1));
        bad("build of PART 40", x -> x.build(1L << 40));
        bad("build of all bits", x -> x.build(-1));
        bad("findings 0", x -> x.findings(0));
    }

    /** What is a FINDING for a TEST whose REACH is there, and for one whose REACH is missing. */
    private void findingCalls(int there, int missing) {
        for (int i : new int[] {-1, 5, LEAST, GREATEST}) {
            found("reach byte " + i, x -> x.reach(there, i, 1), BEYOND);
            found("byteOf byte " + i, x -> x.byteOf(there, i), BEYOND);
            found("copy from " + i, x -> x.copy(there, i, there, 0, 1), BEYOND);
            found("copy to " + i, x -> x.copy(there, 0, there, i, 1), BEYOND);
        }
        found("copy of too many", x -> x.copy(there, 1, there, 0, 5), BEYOND);
        found("copy to too few", x -> x.copy(there, 0, there, 1, 5), BEYOND);
        found("copy of far too many", x -> x.copy(there, 1, there, 0, GREATEST), BEYOND);
        found("copy of -1", x -> x.copy(there, 0, there, 1, -1), SIZE);
        found("copy of least", x -> x.copy(there, 0, missing, 1, LEAST), SIZE);
        found("reach of a missing one", x -> x.reach(missing, 0, 1), NOTHING);
        found("byteOf a missing one", x -> x.byteOf(missing, 0), NOTHING);
        found("tear a missing one", x -> x.tear(missing), NOTHING);
        found("copy of a missing one", x -> x.copy(missing, 0, there, 0, 5), NOTHING);
        found("copy to a missing one", x -> x.copy(there, 0, missing, 0, 5), NOTHING);
        found("time of another kind", x -> x.time(there, IDLE), UNLIKE);
    }

    private static TestPicker someTests() {
        TestPicker x = reaching(1, 0x0504030208L, 0);
        x.test(CHAINED, 3, 1);
        x.reach(3, 0, 64);
        x.tear(2);
        return x;
    }

    /** THE PICK is of the TESTS 0, 1 and 3. */
    private static TestPicker somePick() {
        TestPicker x = someTests();
        x.build(ALL_PARTS);
        x.verdict(0, true);
        x.build(255);
        x.verdict(1, false);
        x.pick(30000);
        x.best(30000);
        return x;
    }

    private static TestPicker thePickIsGone() {
        TestPicker x = reaching(1);
        x.build(1);
        x.pick(1);
        x.run(1);
        x.build(1);
        return x;
    }

    /** THE PICK is of all TESTS; the last one's REACH went missing since. */
    private static TestPicker allFull() {
        TestPicker x = new TestPicker();
        for (int t = 0; t < 20; t++) {
            x.test(TEST, 1, 0);
            x.reach(t, t / 8, 1 << t % 8);
        }
        for (int b = 0; b < 60; b++) {
            x.build(ALL_PARTS);
            x.verdict(b % 13, true);
        }
        x.change(59);
        x.pick(20);
        x.tear(19);
        return x;
    }

    @Says("What is refused changes nothing but finding(), findings().")
    void inANewObject() {
        badCalls(0, 0);
        refused("pick", x -> x.pick(0), STATE);
        refused("best", x -> x.best(0), STATE);
        refused("run", x -> x.run(0), STATE);
        refused("suspects", x -> x.suspects(), STATE);
        refused("badWork", x -> x.badWork(), STATE);
        eachChangesNothing(TestPicker::new, STATE);
    }

    @Says("What is refused changes nothing but finding(), findings().")
    void withTestsAlone() {
        badCalls(4, 0);
        findingCalls(1, 2);
        found("turn a CHAINED one", x -> x.turn(3, IDLE), UNLIKE);
        refused("verdict", x -> x.verdict(0, true), STATE);
        refused("pick", x -> x.pick(0), STATE);
        refused("best", x -> x.best(0), STATE);
        refused("run", x -> x.run(1), STATE);
        refused("suspects", x -> x.suspects(), STATE);
        refused("badWork", x -> x.badWork(), STATE);
        eachChangesNothing(RefusalsTest::someTests, STATE);
    }

    @Says("What is refused changes nothing but finding(), findings().")
    void withAPick() {
        badCalls(4, 2);
        findingCalls(1, 2);
        found("turn a CHAINED one", x -> x.turn(3, IDLE), UNLIKE);
        eachChangesNothing(RefusalsTest::somePick, 3);
    }

    @Says("What is refused changes nothing but finding(), findings().")
    void whenThePickIsNone() {
        badCalls(1, 2);
        refused("run", x -> x.run(1), STATE);
        eachChangesNothing(RefusalsTest::thePickIsGone, STATE);
    }

    @Says("What is refused changes nothing but finding(), findings().")
    void whenAllIsFull() {
        badCalls(20, 60);
        findingCalls(0, 19);
        refused("test", x -> x.test(TEST, 1, 0), FULL);
        refused("test, CHAINED", x -> x.test(CHAINED, 1, 19), FULL);
        refused("build", x -> x.build(0), FULL);
        refused("best", x -> x.best(30000), SPENT);
        refused("fewest", x -> x.fewest(), SPENT);
        eachChangesNothing(RefusalsTest::allFull, 20);
    }
}
