import java.util.Random;

/** Long runs of calls, the same each time, on a TestPicker and on the plain model side by side. */
public final class ModelTest {
    private static final int RUNS = 400;
    private static final int CALLS = 512;
    private static final int[] ODD = {
        Integer.MIN_VALUE, -10, -9, -2, -1, 5, 6, 7, 19, 20, 21, 31, 32, 40, 59, 60, 64, 255, 256,
        1000, 1001, 30000, 30001, Integer.MAX_VALUE
    };

    private final Random random;
    private final TestPicker real = new TestPicker();
    private final PlainModel model = new PlainModel();
    private final Due due;
    /** What a run is like: how many TESTS and BUILDS it aims at, how wide REACHES and CHANGES are. */
    private final int testsWanted;
    private final int buildsWanted;
    private final int partsWanted;
    private final int timeWanted;

    private ModelTest(int run, Due due) {
        this.random = new Random(1000L + run);
        this.due = due;
        this.testsWanted = 1 + random.nextInt(20);
        this.buildsWanted = 1 + random.nextInt(60);
        this.partsWanted = 1 + random.nextInt(40);
        this.timeWanted = random.nextBoolean() ? 4 : 1000;
    }

    public static void main(String[] args) {
        Due due = new Due("ModelTest");
        for (int run = 0; run < RUNS && due.wrong() < 20; run++) {
            ModelTest test = new ModelTest(run, due);
            for (int call = 0; call < CALLS && due.wrong() < 20; call++) {
                test.step("run " + run + ", call " + call);
            }
        }
        due.finish();
    }

    private void step(String where) {
        int group = random.nextInt(100);
        if (real.count(0) < testsWanted && group < 12) {
            makeTest(where);
        } else if (real.count(1) < buildsWanted && group < 22) {
            makeBuild(where);
        } else if (group < 40) {
            giveVerdict(where);
        } else if (group < 62) {
            changeTest(where);
        } else if (group < 90) {
            pickAndSeek(where);
        } else {
            look(where);
        }
        due.due(where + ": asked()", real.asked(), model.asked());
        due.due(where + ": finding()", real.finding(), model.finding());
        if (random.nextInt(8) == 0) {
            due.due(where + ": digest()", real.digest(), model.digest());
        }
    }

    private void makeTest(String where) {
        int kind = number(4);
        int time = random.nextInt(20) == 0 ? odd() : 1 + random.nextInt(timeWanted);
        int need = number(Math.max(1, real.count(0)));
        due.due(where + ": test(" + kind + ", " + time + ", " + need + ")",
                real.test(kind, time, need), model.test(kind, time, need));
        int made = real.count(0) - 1;
        for (int i = 0; i < 5; i++) {
            int b = (int) (parts() >>> 8 * i & 255);
            due.due(where + ": reach(" + made + ", " + i + ", " + b + ")",
                    real.reach(made, i, b), model.reach(made, i, b));
        }
    }

    private void makeBuild(String where) {
        long change = random.nextInt(20) == 0 ? random.nextLong() : random.nextInt(4) == 0 ? 0 : parts();
        due.due(where + ": build(" + change + ")", real.build(change), model.build(change));
    }

    private void giveVerdict(String where) {
        if (random.nextInt(4) == 0) {
            int falling = set();
            due.due(where + ": run(" + falling + ")", real.run(falling), model.run(falling));
            return;
        }
        int test = test();
        boolean fell = random.nextBoolean();
        due.due(where + ": verdict(" + test + ", " + fell + ")", real.verdict(test, fell), model.verdict(test, fell));
    }

    private void changeTest(String where) {
        int test = test();
        int i = number(5);
        switch (random.nextInt(12)) {
            case 0, 1 -> {
                int kind = random.nextInt(3) == 0 ? number(4) : random.nextInt(2);
                due.due(where + ": turn(" + test + ", " + kind + ")", real.turn(test, kind), model.turn(test, kind));
            }
            case 2, 3, 4 -> {
                int b = random.nextInt(10) == 0 ? odd() : (int) (parts() & 255);
                due.due(where + ": reach(" + test + ", " + i + ", " + b + ")",
                        real.reach(test, i, b), model.reach(test, i, b));
            }
            case 5 -> due.due(where + ": byteOf(" + test + ", " + i + ")", real.byteOf(test, i), model.byteOf(test, i));
            case 6 -> due.due(where + ": tear(" + test + ")", real.tear(test), model.tear(test));
            case 7, 8 -> due.due(where + ": anew(" + test + ")", real.anew(test), model.anew(test));
            default -> {
                int other = test();
                int j = number(6);
                int n = number(5);
                due.due(where + ": copy(" + test + ", " + i + ", " + other + ", " + j + ", " + n + ")",
                        real.copy(test, i, other, j, n), model.copy(test, i, other, j, n));
            }
        }
    }

    private void pickAndSeek(String where) {
        int time = random.nextInt(20) == 0 ? odd() : random.nextInt(Math.min(30000, 8 * timeWanted));
        int set = set();
        switch (random.nextInt(9)) {
            case 0, 1, 2 -> {
                due.due(where + ": pick(" + time + ")", real.pick(time), model.pick(time));
                for (int i = -1; i <= 20; i++) {
                    due.due(where + ": picked(" + i + ")", real.picked(i), model.picked(i));
                }
            }
            case 3 -> {
                for (int what = -1; what <= 3; what++) {
                    due.due(where + ": about(" + what + ")", real.about(what), model.about(what));
                }
            }
            case 4 -> due.due(where + ": best(" + time + ")", real.best(time), model.best(time));
            case 5 -> due.due(where + ": suspects()", real.suspects(), model.suspects());
            case 6 -> due.due(where + ": badWork()", real.badWork(), model.badWork());
            case 7 -> due.due(where + ": fewest()", real.fewest(), model.fewest());
            default -> due.due(where + ": missed(" + set + ")", real.missed(set), model.missed(set));
        }
    }

    private void look(String where) {
        int test = test();
        int what = number(7);
        int build = number(Math.max(1, real.count(1)));
        due.due(where + ": told(" + test + ", " + what + ")", real.told(test, what), model.told(test, what));
        due.due(where + ": time(" + test + ", " + what + ")", real.time(test, what), model.time(test, what));
        due.due(where + ": was(" + test + ", " + build + ")", real.was(test, build), model.was(test, build));
        due.due(where + ": change(" + build + ")", real.change(build), model.change(build));
        due.due(where + ": often(" + test + ", " + what + ")", real.often(test, what), model.often(test, what));
        due.due(where + ": picked(" + what + ")", real.picked(what), model.picked(what));
        due.due(where + ": count(" + what + ")", real.count(what), model.count(what));
        due.due(where + ": findings(" + what + ")", real.findings(what), model.findings(what));
    }

    private int odd() {
        return ODD[random.nextInt(ODD.length)];
    }

    private int number(int bound) {
        return random.nextInt(20) == 0 ? odd() : random.nextInt(bound);
    }

    private int test() {
        return number(Math.max(1, real.count(0)));
    }

    private int set() {
        int bits = random.nextInt() & random.nextInt();
        return random.nextInt(20) == 0 ? bits : bits & (1 << real.count(0)) - 1;
    }

    private long parts() {
        return random.nextLong() & random.nextLong() & (1L << partsWanted) - 1;
    }
}
