import java.util.Arrays;
import java.util.Random;
import java.util.function.LongSupplier;

/**
 * Runs of 512 calls, the same ones each time, on a TestPicker and on the plain model side by side. They end
 * there because what an object answers behind its 512th call is free.
 */
public final class ModelTest {
    private static final int RUNS = 2000;
    private static final int CALLS = 512;
    private static final int MOST_WRONG = 20;
    private static final int[] ODD = {
        Integer.MIN_VALUE, -10, -9, -2, -1, 0, 3, 4, 5, 6, 7, 19, 20, 21, 31, 32, 40, 59, 60, 64, 255, 256,
        1000, 1001, 30000, 30001, Integer.MAX_VALUE
    };

    private final int run;
    private final Random random;
    private final TestPicker real = new TestPicker();
    private final PlainModel model = new PlainModel();
    private final Due due;
    /** What a run is like: how many TESTS and BUILDS it aims at (more than there can be, too), and how soon. */
    private final int testsWanted;
    private final int buildsWanted;
    private final int buildShare;
    /** How many PARTS it knows, and whether most of them are reached and changed: then few TESTS are FLAKY. */
    private final int partsWanted;
    private final boolean wide;
    private final int timeWanted;
    private final int fallShare;
    private int testsTried = 0;
    private int buildsTried = 0;
    private int calls = 0;

    private ModelTest(int run, Due due) {
        this.run = run;
        this.random = new Random(1000L + run);
        this.due = due;
        this.testsWanted = 1 + random.nextInt(23);
        this.buildsWanted = 1 + random.nextInt(65);
        this.buildShare = 5 + random.nextInt(35);
        this.partsWanted = 1 + random.nextInt(40);
        this.wide = random.nextInt(3) == 0;
        this.timeWanted = random.nextBoolean() ? 4 : 1000;
        this.fallShare = 1 + random.nextInt(9);
    }

    public static void main(String[] args) {
        Due due = new Due("ModelTest");
        for (int run = 0; run < RUNS && due.wrong() < MOST_WRONG; run++) {
            ModelTest test = new ModelTest(run, due);
            test.goThrough();
            due.due("run " + run + ": calls", test.calls, CALLS);
        }
        due.finish();
    }

    /** The last call is digest(): it tells all that the others left behind. */
    private void goThrough() {
        while (calls < CALLS - 1) {
            step();
        }
        answer("digest", real::digest, model::digest);
    }

    private void ask(String name, LongSupplier asked, LongSupplier plain, long... with) {
        if (calls < CALLS - 1) {
            answer(name, asked, plain, with);
        }
    }

    private void answer(String name, LongSupplier asked, LongSupplier plain, long... with) {
        calls++;
        long got = asked.getAsLong();
        long want = plain.getAsLong();
        String call = got == want ? name : "run " + run + ", call " + calls + ": " + name + Arrays.toString(with);
        due.due(call, got, want);
    }

    private void step() {
        if (testsTried < testsWanted && random.nextInt(100) < 15) {
            makeTest();
        } else if (buildsTried < buildsWanted && random.nextInt(100) < buildShare) {
            makeBuild();
        } else {
            int group = random.nextInt(100);
            if (group < 25) {
                giveVerdict();
            } else if (group < 50) {
                changeTest();
            } else if (group < 85) {
                pickAndSeek();
            } else {
                look();
            }
        }
        if (random.nextInt(6) == 0) {
            ask("asked", real::asked, model::asked);
            ask("finding", real::finding, model::finding);
        }
        if (random.nextInt(16) == 0) {
            ask("digest", real::digest, model::digest);
        }
    }

    private void makeTest() {
        testsTried++;
        int kind = number(4);
        int time = random.nextInt(20) == 0 ? odd() : 1 + random.nextInt(timeWanted);
        int need = number(Math.max(1, model.count(0)));
        ask("test", () -> real.test(kind, time, need), () -> model.test(kind, time, need), kind, time, need);
        int made = model.count(0) - 1;
        long parts = parts();
        for (int place = 0; place < 5; place++) {
            int i = place;
            int b = (int) (parts >>> 8 * i & 255);
            if (b != 0) {
                ask("reach", () -> real.reach(made, i, b), () -> model.reach(made, i, b), made, i, b);
            }
        }
    }

    private void makeBuild() {
        buildsTried++;
        long change = changeOfABuild();
        ask("build", () -> real.build(change), () -> model.build(change), change);
    }

    private long changeOfABuild() {
        return switch (random.nextInt(20)) {
            case 0 -> parts() | 1L << random.nextInt(64);
            case 1, 2, 3, 4 -> wide ? parts() : 0;
            default -> parts();
        };
    }

    private void giveVerdict() {
        if (random.nextInt(3) == 0) {
            int falling = set();
            if (random.nextBoolean()) {
                pick();
            }
            ask("run", () -> real.run(falling), () -> model.run(falling), falling);
            return;
        }
        int test = test();
        boolean fell = random.nextInt(10) < fallShare;
        ask("verdict", () -> real.verdict(test, fell), () -> model.verdict(test, fell), test, fell ? 1 : 0);
    }

    private void changeTest() {
        int test = test();
        int i = number(5);
        switch (random.nextInt(12)) {
            case 0, 1 -> {
                int kind = random.nextInt(3) == 0 ? number(4) : random.nextInt(2);
                ask("turn", () -> real.turn(test, kind), () -> model.turn(test, kind), test, kind);
            }
            case 2, 3, 4 -> {
                int b = random.nextInt(10) == 0 ? odd() : (int) (parts() & 255);
                ask("reach", () -> real.reach(test, i, b), () -> model.reach(test, i, b), test, i, b);
            }
            case 5 -> ask("byteOf", () -> real.byteOf(test, i), () -> model.byteOf(test, i), test, i);
            case 6 -> ask("tear", () -> real.tear(test), () -> model.tear(test), test);
            case 7, 8 -> ask("anew", () -> real.anew(test), () -> model.anew(test), test);
            default -> {
                int other = test();
                int j = number(6);
                int n = number(5);
                ask("copy", () -> real.copy(test, i, other, j, n), () -> model.copy(test, i, other, j, n),
                        test, i, other, j, n);
            }
        }
    }

    private void pickAndSeek() {
        int time = span();
        int set = set();
        switch (random.nextInt(9)) {
            case 0, 1 -> {
                pick();
                lookAtPick();
            }
            case 2 -> lookAtPick();
            case 3, 4 -> {
                ask("best", () -> real.best(time), () -> model.best(time), time);
                ask("asked", real::asked, model::asked);
            }
            case 5 -> {
                ask("suspects", real::suspects, model::suspects);
                ask("asked", real::asked, model::asked);
            }
            case 6 -> ask("badWork", real::badWork, model::badWork);
            case 7 -> {
                ask("fewest", real::fewest, model::fewest);
                ask("asked", real::asked, model::asked);
            }
            default -> ask("missed", () -> real.missed(set), () -> model.missed(set), set);
        }
    }

    private void pick() {
        int time = span();
        ask("pick", () -> real.pick(time), () -> model.pick(time), time);
    }

    private void lookAtPick() {
        for (int place = 0; model.picked(place) >= 0; place++) {
            int i = place;
            ask("picked", () -> real.picked(i), () -> model.picked(i), i);
        }
        int odd = number(20);
        ask("picked", () -> real.picked(odd), () -> model.picked(odd), odd);
        int what = number(3);
        ask("about", () -> real.about(what), () -> model.about(what), what);
    }

    private void look() {
        int test = test();
        int what = number(7);
        int build = number(Math.max(1, model.count(1)));
        switch (random.nextInt(7)) {
            case 0, 1 -> ask("told", () -> real.told(test, what), () -> model.told(test, what), test, what);
            case 2 -> ask("time", () -> real.time(test, what), () -> model.time(test, what), test, what);
            case 3 -> ask("was", () -> real.was(test, build), () -> model.was(test, build), test, build);
            case 4 -> {
                ask("change", () -> real.change(build), () -> model.change(build), build);
                ask("asked", real::asked, model::asked);
            }
            case 5 -> ask("often", () -> real.often(test, what), () -> model.often(test, what), test, what);
            default -> {
                ask("count", () -> real.count(what), () -> model.count(what), what);
                ask("findings", () -> real.findings(what), () -> model.findings(what), what);
            }
        }
    }

    private int odd() {
        return ODD[random.nextInt(ODD.length)];
    }

    private int number(int bound) {
        return random.nextInt(20) == 0 ? odd() : random.nextInt(bound);
    }

    private int span() {
        return random.nextInt(20) == 0 ? odd() : random.nextInt(Math.min(30000, 8 * timeWanted));
    }

    private int test() {
        return number(Math.max(1, model.count(0)));
    }

    private int set() {
        int bits = random.nextInt() & (wide ? -1 : random.nextInt());
        return random.nextInt(20) == 0 ? bits : bits & (1 << model.count(0)) - 1;
    }

    private long parts() {
        long known = (1L << partsWanted) - 1;
        return known & (wide ? random.nextLong() | random.nextLong() : random.nextLong() & random.nextLong());
    }
}
