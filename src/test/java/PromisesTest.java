/** For each promise of the document: ordinary inputs, the edges that it names, and wrong inputs. */
public final class PromisesTest {
    private static final Due DUE = new Due("PromisesTest");
    private static final int BAD = -1, FULL = -2, FINDING = -3, STATE = -4, SPENT = -6, NONE = -9;
    private static final int LEAST = Integer.MIN_VALUE, GREATEST = Integer.MAX_VALUE;
    private static final long ALL_PARTS = (1L << 40) - 1;

    public static void main(String[] args) {
        promise01();
        promise02();
        promise03();
        promise04();
        promise05();
        promise06();
        promise07();
        promise08();
        promise09();
        promise09Heat();
        promise09Flaky();
        promise09Broken();
        promise10();
        promise11();
        promise12();
        promise13();
        promise14();
        promise15();
        promise16();
        promise16Chains();
        promise16Edges();
        promise17();
        promise18();
        promise19();
        promise19Ties();
        promise19Spent();
        promise20();
        promise21();
        promise22();
        promise23();
        promise23Edges();
        promise24();
        promise25();
        promise26();
        promise27and28();
        promise29();
        allAtTheirMost();
        DUE.finish();
    }

    private static void due(String call, long got, long want) {
        DUE.due(call, got, want);
    }

    /** A picker with as many plain TESTS as times are told, each reaching the PARTS told for it. */
    private static TestPicker picker(int[] times, long[] parts) {
        TestPicker x = new TestPicker();
        for (int t = 0; t < times.length; t++) {
            x.test(0, times[t], 0);
            reachAll(x, t, parts[t]);
        }
        return x;
    }

    private static void reachAll(TestPicker x, int test, long parts) {
        for (int i = 0; i < 5; i++) {
            x.reach(test, i, (int) (parts >>> 8 * i & 255));
        }
    }

    private static void promise01() {
        TestPicker x = new TestPicker();
        due("1 count(0)", x.count(0), 0);
        due("1 count(1)", x.count(1), 0);
        due("1 count(2)", x.count(2), 0);
        due("1 finding()", x.finding(), 0);
        due("1 findings(1)", x.findings(1), 0);
        due("1 asked()", x.asked(), 0);
        due("1 about(0)", x.about(0), NONE);
        due("1 picked(0)", x.picked(0), NONE);
        due("1 digest()", x.digest(), 17);
        TestPicker y = new TestPicker();
        x.test(0, 1, 0);
        x.build(1);
        due("1 another object", y.count(0) + y.count(1), 0);
    }

    private static void promise02() {
        TestPicker x = new TestPicker();
        due("2 kind -1", x.test(-1, 1, 0), BAD);
        due("2 kind 4", x.test(4, 1, 0), BAD);
        due("2 kind least", x.test(LEAST, 1, 0), BAD);
        due("2 time 0", x.test(0, 0, 0), BAD);
        due("2 time 1001", x.test(0, 1001, 0), BAD);
        due("2 time -1", x.test(0, -1, 0), BAD);
        due("2 needs itself", x.test(2, 1, 0), BAD);
        due("2 needs -1", x.test(2, 1, -1), BAD);
        due("2 nothing changed", x.count(0), 0);
        due("2 need is not looked at", x.test(0, 1, -77), 0);
        due("2 slow", x.test(1, 1000, GREATEST), 1);
        due("2 idle", x.test(3, 1000, LEAST), 2);
        due("2 chained", x.test(2, 1000, 2), 3);
        due("2 needs none such", x.test(2, 1, 4), BAD);
        due("2 what it needs", x.told(3, 2), 2);
        for (int t = 4; t < 20; t++) {
            due("2 number", x.test(2, 1, t - 1), t);
        }
        due("2 full", x.test(0, 1, 0), FULL);
        due("2 bad ahead of full", x.test(0, 0, 0), BAD);
        due("2 bad need ahead of full", x.test(2, 1, 20), BAD);
        due("2 no more than 20", x.count(0), 20);
    }

    private static void promise03() {
        TestPicker x = new TestPicker();
        due("3 none such", x.turn(0, 0), BAD);
        x.test(0, 7, 0);
        x.test(2, 7, 0);
        due("3 to slow", x.turn(0, 1), 0);
        due("3 time", x.told(0, 1), 21);
        due("3 to idle", x.turn(0, 3), 1);
        due("3 time", x.told(0, 1), 7);
        due("3 to idle again", x.turn(0, 3), 3);
        due("3 to test", x.turn(0, 0), 3);
        due("3 kind", x.told(0, 0), 0);
        due("3 to chained", x.turn(0, 2), BAD);
        due("3 to 4", x.turn(0, 4), BAD);
        due("3 to -1", x.turn(0, -1), BAD);
        due("3 test -1", x.turn(-1, 0), BAD);
        due("3 chained to chained", x.turn(1, 2), BAD);
        due("3 no finding yet", x.finding(), 0);
        due("3 chained", x.turn(1, 0), FINDING);
        due("3 unlike", x.finding(), 3);
        due("3 kind stays", x.told(1, 0), 2);
    }

    private static void promise04() {
        TestPicker x = new TestPicker();
        due("4 none such", x.reach(0, 0, 0), BAD);
        x.test(0, 1, 0);
        due("4 first", x.reach(0, 0, 255), 0);
        due("4 second", x.reach(0, 0, 129), 255);
        due("4 last byte", x.reach(0, 4, 200), 0);
        due("4 what it was", x.reach(0, 4, 0), 200);
        due("4 others stay", x.byteOf(0, 0), 129);
        due("4 b 256", x.reach(0, 0, 256), BAD);
        due("4 b -1", x.reach(0, 0, -1), BAD);
        due("4 bad ahead of beyond", x.reach(0, 9, 256), BAD);
        due("4 test -1", x.reach(-1, 0, 0), BAD);
        due("4 i 5", x.reach(0, 5, 1), FINDING);
        due("4 beyond", x.finding(), 2);
        due("4 i -1", x.reach(0, -1, 1), FINDING);
        due("4 i least", x.reach(0, LEAST, 1), FINDING);
        due("4 beyond thrice", x.findings(2), 3);
        x.tear(0);
        due("4 missing", x.reach(0, 5, 1), FINDING);
        due("4 nothing ahead of beyond", x.finding(), 1);
        due("4 bad ahead of nothing", x.reach(0, 0, 999), BAD);
    }

    private static void promise05() {
        TestPicker x = new TestPicker();
        due("5 none such", x.byteOf(0, 0), BAD);
        x.test(0, 1, 0);
        for (int i = 0; i < 5; i++) {
            due("5 none at first", x.byteOf(0, i), 0);
            x.reach(0, i, 250 + i);
        }
        for (int i = 0; i < 5; i++) {
            due("5 byte", x.byteOf(0, i), 250 + i);
        }
        due("5 i 5", x.byteOf(0, 5), FINDING);
        due("5 beyond", x.finding(), 2);
        due("5 i -1", x.byteOf(0, -1), FINDING);
        x.tear(0);
        due("5 missing", x.byteOf(0, 5), FINDING);
        due("5 nothing", x.finding(), 1);
        due("5 bad", x.byteOf(1, 0), BAD);
    }

    private static void promise06() {
        TestPicker x = new TestPicker();
        due("6 none such", x.tear(0), BAD);
        x.test(0, 1, 0);
        due("6 torn", x.tear(0), 1);
        due("6 again", x.tear(0), FINDING);
        due("6 nothing", x.finding(), 1);
        due("6 bad", x.tear(-1), BAD);
        due("6 once", x.findings(1), 1);
    }

    private static void promise07() {
        TestPicker x = new TestPicker();
        due("7 none such", x.anew(0), BAD);
        x.test(0, 1, 0);
        x.reach(0, 2, 99);
        due("7 there", x.anew(0), 1);
        due("7 no parts", x.byteOf(0, 2), 0);
        x.reach(0, 2, 99);
        x.tear(0);
        due("7 not there", x.anew(0), 0);
        due("7 no parts", x.byteOf(0, 2), 0);
        due("7 no parts", x.byteOf(0, 0), 0);
        x.anew(0);
        due("7 no parts in any byte", bytes(x, 0), 0);
        due("7 bad", x.anew(1), BAD);
    }

    private static void promise08() {
        TestPicker x = picker(new int[] {1, 1}, new long[] {0x0504030201L, 0});
        due("8 from, to", x.copy(0, 1, 1, 2, 3), 1);
        due("8 to", bytes(x, 1), 0x0403020000L);
        due("8 from stays", bytes(x, 0), 0x0504030201L);
        due("8 up its own", x.copy(0, 0, 0, 1, 4), 1);
        due("8 as if taken ahead", bytes(x, 0), 0x0403020101L);
        due("8 down its own", x.copy(0, 1, 0, 0, 4), 1);
        due("8 as if taken ahead", bytes(x, 0), 0x0404030201L);
        due("8 all", x.copy(0, 0, 1, 0, 5), 1);
        due("8 all of it", bytes(x, 1), 0x0404030201L);
        due("8 none", x.copy(0, 0, 1, 4, 0), 1);
        due("8 none at the end", x.copy(0, 5, 1, 5, 0), 1);
        due("8 none of it", bytes(x, 1), 0x0404030201L);
        due("8 no finding", x.finding(), 0);
        due("8 none beyond", x.copy(0, 6, 1, 0, 0), FINDING);
        due("8 none beyond there", x.copy(0, 0, 1, 6, 0), FINDING);
        due("8 below", x.copy(0, -1, 1, 0, 1), FINDING);
        due("8 below there", x.copy(0, 0, 1, -1, 1), FINDING);
        due("8 too many", x.copy(0, 3, 1, 0, 3), FINDING);
        due("8 too many there", x.copy(0, 0, 1, 3, 3), FINDING);
        due("8 far too many", x.copy(0, 1, 1, 1, GREATEST), FINDING);
        due("8 far", x.copy(0, GREATEST, 1, 0, 1), FINDING);
        due("8 far down", x.copy(0, 0, 1, LEAST, 1), FINDING);
        due("8 beyond", x.findings(2), 9);
        due("8 size", x.copy(0, 9, 1, 0, -1), FINDING);
        due("8 size", x.finding(), 4);
        x.tear(1);
        due("8 missing there", x.copy(0, 9, 1, 0, 1), FINDING);
        due("8 nothing", x.finding(), 1);
        due("8 missing here", x.copy(1, 0, 0, 0, 0), FINDING);
        due("8 nothing", x.findings(1), 2);
        due("8 size ahead of nothing", x.copy(1, 0, 0, 0, LEAST), FINDING);
        due("8 size", x.finding(), 4);
        due("8 bad", x.copy(2, 0, 0, 0, -1), BAD);
        due("8 bad there", x.copy(0, 0, -1, 0, -1), BAD);
        due("8 it stays", bytes(x, 0), 0x0404030201L);
    }

    private static long bytes(TestPicker x, int test) {
        long all = 0;
        for (int i = 0; i < 5; i++) {
            all |= (long) x.byteOf(test, i) << 8 * i;
        }
        return all;
    }

    private static void promise09() {
        TestPicker x = new TestPicker();
        due("9 none such", x.told(0, 0), BAD);
        x.test(1, 1000, 0);
        x.test(2, 10, 0);
        x.test(2, 20, 0);
        x.test(2, 30, 2);
        x.test(3, 40, 0);
        due("9 kind", x.told(0, 0), 1);
        due("9 kind", x.told(3, 0), 2);
        due("9 time", x.told(0, 1), 3000);
        due("9 time", x.told(3, 1), 30);
        due("9 needs none", x.told(0, 2), NONE);
        due("9 needs", x.told(2, 2), 0);
        due("9 needs", x.told(3, 2), 2);
        due("9 idle needs none", x.told(4, 2), NONE);
        due("9 heat without builds", x.told(0, 3), 0);
        due("9 flaky without builds", x.told(0, 4), 0);
        due("9 broken without builds", x.told(0, 5), 0);
        due("9 chain of 1", x.told(0, 6), 1);
        due("9 chain of 2", x.told(2, 6), 2);
        due("9 chain of 3", x.told(3, 6), 3);
        due("9 what -1", x.told(0, -1), BAD);
        due("9 what 7", x.told(0, 7), BAD);
        due("9 test 5", x.told(5, 0), BAD);
        due("9 test -1", x.told(-1, 0), BAD);
    }

    private static void promise09Heat() {
        TestPicker x = new TestPicker();
        x.test(0, 1, 0);
        x.test(0, 1, 0);
        x.build(0);
        x.verdict(0, true);
        due("9 heat of the present", x.told(0, 3), 0);
        int[] heats = {128, 64, 32, 16, 8, 4, 2, 1, 0, 0};
        for (int ago = 1; ago <= heats.length; ago++) {
            x.build(0);
            due("9 heat " + ago + " ago", x.told(0, 3), heats[ago - 1]);
        }
        for (int b = 11; b < 60; b++) {
            x.verdict(1, b % 3 != 0);
            x.build(0);
        }
        // Of the BUILDS 51 to 58 it passed in 53 and 56 alone.
        int heat = 0;
        for (int b = 51; b <= 58; b++) {
            heat += x.was(1, b) == 1 ? 1 << b - 51 : 0;
        }
        due("9 heat in the last", x.told(1, 3), heat);
        due("9 heat in the last, by hand", x.told(1, 3), 0b11011011);
    }

    private static void promise09Flaky() {
        TestPicker x = picker(new int[] {1, 1, 1}, new long[] {1, 2, 0});
        x.build(1);
        for (int t = 0; t < 3; t++) {
            x.verdict(t, false);
        }
        due("9 one verdict", x.told(0, 4), 0);
        x.build(2);
        x.build(0);
        for (int t = 0; t < 3; t++) {
            x.verdict(t, true);
        }
        due("9 flaky: the change of the first does not count", x.told(0, 4), 1);
        due("9 not flaky: changed between", x.told(1, 4), 0);
        due("9 flaky: reaches none", x.told(2, 4), 1);
        x.verdict(0, false);
        due("9 alike now", x.told(0, 4), 0);
        x.reach(1, 0, 1);
        due("9 as its reach is now", x.told(1, 4), 1);
        x.reach(1, 0, 3);
        due("9 as its reach is now", x.told(1, 4), 0);
        x.tear(1);
        due("9 missing reaches none", x.told(1, 4), 1);
        x.anew(1);
        x.reach(1, 0, 2);
        x.build(2);
        x.verdict(1, false);
        due("9 the change of the latter counts", x.told(1, 4), 0);
        x.build(0);
        x.build(0);
        x.verdict(1, false);
        x.build(0);
        x.verdict(1, true);
        due("9 no change between the latest two", x.told(1, 4), 1);
        x.build(2);
        x.verdict(1, true);
        due("9 it stays flaky", x.told(1, 4), 1);
    }

    private static void promise09Broken() {
        TestPicker x = picker(new int[] {1}, new long[] {1});
        x.build(1);
        x.verdict(0, true);
        due("9 broken", x.told(0, 5), 1);
        x.build(1);
        due("9 broken still", x.told(0, 5), 1);
        x.verdict(0, false);
        due("9 passed", x.told(0, 5), 0);
        x.verdict(0, true);
        due("9 fell again", x.told(0, 5), 1);
        x.build(1);
        x.verdict(0, false);
        due("9 mended", x.told(0, 5), 0);
        x.build(0);
        x.verdict(0, true);
        due("9 flaky", x.told(0, 4), 1);
        due("9 flaky is not broken", x.told(0, 5), 0);
    }

    private static void promise10() {
        TestPicker x = new TestPicker();
        due("10 none such", x.time(0, 0), BAD);
        x.test(1, 9, 0);
        x.test(2, 8, 0);
        due("10 slow", x.time(0, 1), 9);
        due("10 a slow one is a test", x.time(0, 0), 9);
        due("10 a chained one is a test", x.time(1, 0), 8);
        due("10 chained", x.time(1, 2), 8);
        due("10 no finding", x.finding(), 0);
        due("10 not idle", x.time(0, 3), FINDING);
        due("10 unlike", x.finding(), 3);
        due("10 not slow", x.time(1, 1), FINDING);
        due("10 twice", x.findings(3), 2);
        due("10 kind 4", x.time(0, 4), BAD);
        due("10 kind -1", x.time(0, -1), BAD);
        due("10 test 2", x.time(2, 0), BAD);
        x.turn(0, 0);
        due("10 a test is not slow", x.time(0, 1), FINDING);
    }

    private static void promise11() {
        TestPicker x = picker(new int[] {1}, new long[] {1});
        due("11 bits above 39", x.build(1L << 40), BAD);
        due("11 bit 63", x.build(Long.MIN_VALUE), BAD);
        due("11 all bits", x.build(-1), BAD);
        due("11 none", x.count(1), 0);
        due("11 first", x.build(ALL_PARTS), 0);
        x.pick(1);
        due("11 a pick", x.about(2), 1);
        due("11 refused", x.build(1L << 62), BAD);
        due("11 the pick stays", x.about(2), 1);
        due("11 second", x.build(1), 1);
        due("11 the pick is none", x.about(2), NONE);
        due("11 the pick is none", x.picked(0), NONE);
        due("11 the pick is none", x.run(0), STATE);
        for (int b = 2; b < 60; b++) {
            due("11 number", x.build(b), b);
        }
        x.pick(1);
        due("11 full", x.build(0), FULL);
        due("11 bad ahead of full", x.build(1L << 40), BAD);
        due("11 a refused one leaves the pick", x.about(1), 1);
        due("11 no more than 60", x.count(1), 60);
    }

    private static void promise12() {
        TestPicker x = new TestPicker();
        due("12 bad ahead of state", x.verdict(0, true), BAD);
        x.test(3, 1, 0);
        due("12 no build", x.verdict(0, true), STATE);
        x.build(0);
        due("12 first", x.verdict(0, true), 0);
        due("12 fell", x.was(0, 0), 1);
        due("12 second", x.verdict(0, false), 1);
        due("12 passed", x.was(0, 0), 0);
        due("12 third", x.verdict(0, true), 1);
        due("12 one verdict", x.count(2), 1);
        x.build(0);
        due("12 in the present one", x.verdict(0, false), 0);
        due("12 the former stays", x.was(0, 0), 1);
        due("12 bad", x.verdict(1, true), BAD);
        due("12 bad", x.verdict(-1, true), BAD);
    }

    private static void promise13() {
        TestPicker x = new TestPicker();
        x.test(0, 1, 0);
        due("13 no build", x.was(0, 0), BAD);
        x.build(0);
        due("13 none", x.was(0, 0), NONE);
        x.verdict(0, false);
        x.build(0);
        x.verdict(0, true);
        due("13 passed", x.was(0, 0), 0);
        due("13 fell", x.was(0, 1), 1);
        due("13 build 2", x.was(0, 2), BAD);
        due("13 build -1", x.was(0, -1), BAD);
        due("13 test 1", x.was(1, 0), BAD);
        due("13 test -1", x.was(-1, 0), BAD);
        x.test(0, 1, 0);
        due("13 made behind the build", x.was(1, 0), NONE);
        for (int b = 2; b < 60; b++) {
            x.build(0);
            x.verdict(0, b % 2 == 0);
        }
        due("13 build 58", x.was(0, 58), 1);
        due("13 build 59", x.was(0, 59), 0);
        due("13 build 60", x.was(0, 60), BAD);
    }

    private static void promise14() {
        TestPicker x = new TestPicker();
        due("14 no build", x.change(0), BAD);
        x.build(ALL_PARTS);
        x.build(5);
        due("14 one", x.change(0), 1);
        due("14 all", x.asked(), ALL_PARTS);
        due("14 one", x.change(1), 1);
        due("14 5", x.asked(), 5);
        due("14 bad", x.change(2), BAD);
        due("14 bad", x.change(-1), BAD);
        due("14 it stays", x.asked(), 5);
    }

    private static void promise15() {
        TestPicker x = new TestPicker();
        due("15 none such", x.often(0, 0), BAD);
        x.test(0, 1, 0);
        due("15 no builds", x.often(0, 2), 0);
        for (int b = 0; b < 10; b++) {
            x.build(0);
            if (b < 7) {
                x.verdict(0, b < 3);
            }
        }
        due("15 fell", x.often(0, 0), 3);
        due("15 passed", x.often(0, 1), 4);
        due("15 has none", x.often(0, 2), 3);
        due("15 what 3", x.often(0, 3), BAD);
        due("15 what -1", x.often(0, -1), BAD);
        due("15 test 1", x.often(1, 0), BAD);
    }

    private static void promise16() {
        // GAIN by COST: 2/3, 1/2, 3/4 of 16 each: 2 first, then 0 (PART 3 is left), never 1.
        TestPicker x = picker(new int[] {3, 2, 4}, new long[] {0b1001, 0b0001, 0b0111});
        due("16 no build", x.pick(10), STATE);
        due("16 bad ahead of state", x.pick(30001), BAD);
        x.build(0b11111);
        due("16 below 0", x.pick(-1), BAD);
        due("16 above", x.pick(30001), BAD);
        due("16 all that gains", x.pick(30000), 2);
        due("16 first", x.picked(0), 2);
        due("16 second", x.picked(1), 0);
        due("16 no time", x.pick(0), 0);
        due("16 just so", x.pick(7), 2);
        due("16 not quite", x.pick(6), 1);
        due("16 the greatest does not fit", x.pick(3), 1);
        due("16 but this one", x.picked(0), 0);
        due("16 the least", x.pick(2), 1);
        due("16 the least", x.picked(0), 1);
        due("16 nothing fits", x.pick(1), 0);
        // Now 1 fell: its HEAT makes it (16 + 128) / 2.
        x.verdict(1, true);
        x.build(0b11111);
        x.pick(30000);
        due("16 heat comes first", x.picked(0), 1);
        due("16 then", x.picked(1), 2);
        due("16 then", x.picked(2), 0);
        x.build(0);
        due("16 no change, no gain", x.pick(30000), 0);
    }

    private static void promise16Chains() {
        TestPicker x = new TestPicker();
        x.test(0, 10, 0);
        x.test(1, 2, 0);
        x.test(2, 1, 1);
        x.test(2, 1, 2);
        reachAll(x, 0, 0b0011);
        reachAll(x, 3, 0b1100);
        x.build(0b1111);
        // 3 costs 6 + 1 + 1 for two PARTS: ahead of 0, which costs 10.
        due("16 chain", x.pick(100), 4);
        due("16 needed ahead", x.picked(0), 1);
        due("16 needed ahead", x.picked(1), 2);
        due("16 the last of it", x.picked(2), 3);
        due("16 the other", x.picked(3), 0);
        due("16 time", x.about(0), 18);
        due("16 the chain does not fit", x.pick(7), 0);
        due("16 the chain fits", x.pick(8), 3);
        // The HEAT is the candidate's own, not its CHAIN's.
        x.verdict(1, true);
        x.build(0b1111);
        x.turn(1, 1);
        reachAll(x, 0, 0b1111);
        due("16 own heat", x.pick(100), 1);
        due("16 own heat", x.picked(0), 0);
        reachAll(x, 0, 0b0011);
        // What 3's CHAIN reaches is seen with it; what is picked costs nothing any more.
        reachAll(x, 1, 0b0011);
        reachAll(x, 3, 0b11100);
        x.build(0b11111);
        due("16 chain reaches together", x.pick(100), 3);
        due("16 parts", x.about(1), 5);
        x.tear(2);
        due("16 missing in the chain", x.pick(100), 1);
        due("16 what is ahead of the missing one may be picked", x.picked(0), 1);
        x.anew(2);
        x.turn(1, 3);
        due("16 idle in the chain", x.pick(100), 1);
        due("16 the other", x.picked(0), 0);
    }

    private static void promise16Edges() {
        // Equal fractions (2/4, 1/2, 3/6): the least number.
        TestPicker x = picker(new int[] {6, 4, 2}, new long[] {0b111, 0b11000, 0b100000});
        x.build(0b111111);
        x.pick(30000);
        due("16 equal: the least", x.picked(0), 0);
        due("16 equal: the least", x.picked(1), 1);
        due("16 equal: the least", x.picked(2), 2);
        // 14/1076 is greater than 13/1000 by less than a whole number would show.
        TestPicker y = picker(new int[] {1000, 1000}, new long[] {(1L << 13) - 1, ((1L << 14) - 1) << 20});
        y.test(2, 76, 1);
        y.build(ALL_PARTS);
        y.pick(1000);
        due("16 greater", y.picked(0), 1);
        reachAll(y, 1, 0);
        reachAll(y, 2, ((1L << 14) - 1) << 20);
        y.pick(1076);
        due("16 a little greater", y.picked(0), 1);
        due("16 a little greater", y.picked(1), 2);
        // All twenty SLOW ones at their longest: 60000 in all, 30000 of it fits.
        TestPicker z = new TestPicker();
        for (int t = 0; t < 20; t++) {
            z.test(1, 1000, 0);
            z.reach(t, t / 4, 1 << t % 4);
        }
        z.build(ALL_PARTS);
        due("16 ten of twenty", z.pick(30000), 10);
        due("16 their time", z.about(0), 30000);
        due("16 nine of twenty", z.pick(29999), 9);
        TestPicker w = picker(new int[] {5, 1}, new long[] {1, 0});
        w.test(3, 1, 0);
        w.reach(2, 0, 255);
        w.build(255);
        due("16 idle is never picked", w.pick(30000), 1);
        due("16 nor one without gain", w.about(2), 1);
    }

    private static void promise17() {
        TestPicker x = picker(new int[] {1, 2}, new long[] {1, 2});
        x.build(3);
        due("17 no pick", x.picked(0), NONE);
        x.pick(10);
        due("17 first", x.picked(0), 0);
        due("17 second", x.picked(1), 1);
        due("17 none such", x.picked(2), NONE);
        due("17 below", x.picked(-1), NONE);
        due("17 far", x.picked(GREATEST), NONE);
        due("17 far below", x.picked(LEAST), NONE);
        x.pick(1);
        due("17 the latest", x.picked(1), NONE);
        x.pick(-1);
        due("17 a refused one is none", x.picked(0), 0);
    }

    private static void promise18() {
        TestPicker x = picker(new int[] {1, 2}, new long[] {0b1101, 0b10});
        due("18 none", x.about(0), NONE);
        due("18 bad ahead of none", x.about(3), BAD);
        x.build(0b111);
        due("18 none", x.about(2), NONE);
        x.turn(1, 1);
        x.pick(10);
        due("18 time", x.about(0), 7);
        due("18 parts of the change", x.about(1), 3);
        due("18 tests", x.about(2), 3);
        due("18 bad", x.about(3), BAD);
        due("18 bad", x.about(-1), BAD);
        x.turn(1, 0);
        x.tear(0);
        due("18 as it was picked: time", x.about(0), 7);
        due("18 as it was picked: parts", x.about(1), 3);
        due("18 as it was picked: tests", x.about(2), 3);
        x.run(3);
        due("18 a run leaves it", x.about(2), 3);
        x.pick(0);
        due("18 an empty one: time", x.about(0), 0);
        due("18 an empty one: parts", x.about(1), 0);
        due("18 an empty one: tests", x.about(2), 0);
    }

    private static void promise19() {
        // The plain rule takes 0 first (3 for 2); the best for 6 is 1 and 2 (6 PARTS).
        TestPicker x = picker(new int[] {2, 3, 3}, new long[] {0b000111, 0b001011, 0b110100});
        due("19 no build", x.best(6), STATE);
        due("19 bad ahead of state", x.best(-1), BAD);
        x.build(0b111111);
        due("19 bad", x.best(30001), BAD);
        due("19 six", x.best(6), 6);
        due("19 its tests", x.asked(), 0b110);
        due("19 five", x.best(5), 5);
        due("19 its tests", x.asked(), 0b101);
        due("19 two", x.best(2), 3);
        due("19 its tests", x.asked(), 0b001);
        due("19 none", x.best(1), 0);
        due("19 its tests", x.asked(), 0);
        due("19 far", x.best(30000), 6);
        due("19 bad leaves it", x.best(-5), BAD);
        due("19 its tests", x.asked(), 0b110);
        x.test(2, 1, 0);
        reachAll(x, 3, 0b111000);
        due("19 with its chain", x.best(3), 6);
        due("19 its tests", x.asked(), 0b1001);
        due("19 the chain does not fit", x.best(2), 3);
        x.turn(0, 3);
        due("19 idle in the chain", x.best(30000), 6);
        due("19 its tests", x.asked(), 0b110);
        x.tear(2);
        due("19 missing", x.best(30000), 3);
        due("19 its tests", x.asked(), 0b010);
        x.turn(1, 1);
        due("19 slow", x.best(8), 0);
        due("19 slow", x.best(9), 3);
    }

    private static void promise19Ties() {
        TestPicker x = picker(new int[] {5, 4, 4, 4}, new long[] {1, 1, 1, 2});
        x.build(7);
        due("19 one part", x.best(5), 1);
        due("19 least time, then least bits", x.asked(), 0b0010);
        due("19 both", x.best(8), 2);
        due("19 least time, then least bits", x.asked(), 0b1010);
        // {0, 1} and {2} reach the same in the same time, and 0b011 is the lesser number.
        TestPicker y = picker(new int[] {1, 2, 3}, new long[] {0b01, 0b10, 0b11});
        y.build(3);
        due("19 two parts", y.best(3), 2);
        due("19 least bits, not fewest", y.asked(), 0b011);
        y.build(4);
        due("19 nothing to be had", y.best(3), 0);
        due("19 no time is the least", y.asked(), 0);
    }

    private static void promise19Spent() {
        TestPicker x = new TestPicker();
        for (int t = 0; t < 12; t++) {
            x.test(0, t + 1, 0);
            x.reach(t, t / 8, 1 << t % 8);
        }
        x.build(ALL_PARTS);
        due("19 twelve", x.best(30000), 12);
        due("19 all of them", x.asked(), 0xfff);
        due("19 twelve but one", x.best(77), 11);
        due("19 without the dearest", x.asked(), 0x7ff);
        x.test(3, 1, 0);
        due("19 an idle one does not count", x.best(78), 12);
        x.test(2, 1, 12);
        due("19 nor one that needs it", x.best(78), 12);
        x.turn(12, 1);
        due("19 fourteen", x.best(78), SPENT);
        due("19 it stays", x.asked(), 0xfff);
        due("19 bad ahead of spent", x.best(-1), BAD);
        x.tear(12);
        due("19 missing does not count, nor what needs it", x.best(78), 12);
        x.anew(12);
        x.tear(13);
        due("19 thirteen, though one reaches nothing", x.best(78), SPENT);
    }

    private static void promise20() {
        TestPicker x = new TestPicker();
        due("20 bits of none", x.run(1), BAD);
        due("20 no pick", x.run(0), STATE);
        x.test(0, 1, 0);
        x.test(2, 1, 0);
        x.test(2, 1, 1);
        x.test(2, 1, 0);
        x.test(0, 9, 0);
        for (int t = 0; t < 5; t++) {
            x.reach(t, 0, 1 << t);
        }
        x.build(255);
        due("20 no pick", x.run(0), STATE);
        due("20 bad ahead of state", x.run(32), BAD);
        x.pick(100);
        due("20 all pass", x.run(0), 5);
        due("20 passed", x.was(2, 0), 0);
        due("20 bad", x.run(32), BAD);
        due("20 bad", x.run(-1), BAD);
        due("20 bad", x.run(LEAST), BAD);
        due("20 bad changed nothing", x.count(2), 5);
        x.build(255);
        x.pick(100);
        due("20 at whatever depth", x.run(0b00001), 2);
        due("20 fell", x.was(0, 1), 1);
        due("20 none", x.was(1, 1), NONE);
        due("20 none at depth", x.was(2, 1), NONE);
        due("20 none", x.was(3, 1), NONE);
        due("20 passed", x.was(4, 1), 0);
        due("20 it runs again", x.run(0b00010), 4);
        due("20 the former goes", x.was(0, 1), 0);
        due("20 fell", x.was(1, 1), 1);
        due("20 behind it", x.was(2, 1), NONE);
        due("20 beside it", x.was(3, 1), 0);
        due("20 what does not run keeps its verdict", x.run(0b00001), 2);
        due("20 kept", x.was(1, 1), 1);
        due("20 verdicts in all", x.count(2), 9);
        x.build(255);
        x.pick(1);
        due("20 those of the set that are not picked", x.run(0b11110), 1);
        due("20 only the picked", x.was(4, 2), NONE);
        x.verdict(4, true);
        due("20 behind one that fell in this run", x.run(0), 1);
        x.pick(0);
        due("20 an empty pick", x.run(0b11111), 0);
        x.build(255);
        x.pick(100);
        due("20 each that fell keeps back what needs it", x.run(0b11001), 2);
        x.build(255);
        x.pick(100);
        due("20 two that fell", x.run(0b01010), 4);
        due("20 behind the first", x.was(2, 4), NONE);
    }

    private static void promise21() {
        TestPicker x = picker(new int[] {1, 1, 1, 1}, new long[] {0b0111, 0b0010, 0b0100, 0b11000});
        due("21 no build", x.suspects(), STATE);
        x.build(0b1111);
        due("21 none", x.suspects(), 0);
        x.verdict(0, true);
        due("21 three", x.suspects(), 3);
        due("21 which", x.asked(), 0b0111);
        x.verdict(1, false);
        due("21 one of them passed", x.suspects(), 2);
        due("21 which", x.asked(), 0b0101);
        x.verdict(2, true);
        x.verdict(3, true);
        due("21 of the change alone", x.suspects(), 3);
        due("21 which", x.asked(), 0b1101);
        x.turn(3, 3);
        due("21 an idle one counts", x.suspects(), 3);
        x.tear(3);
        due("21 a missing one reaches none", x.suspects(), 2);
        x.build(0);
        x.verdict(2, false);
        x.build(0b1111);
        x.verdict(2, true);
        due("21 flaky", x.told(2, 4), 1);
        due("21 a flaky one that fell does not count", x.suspects(), 0);
        due("21 none", x.asked(), 0);
        x.verdict(0, true);
        due("21 but others", x.suspects(), 3);
        x.verdict(2, false);
        due("21 still flaky", x.told(2, 4), 1);
        due("21 a flaky one that passed does", x.suspects(), 2);
        due("21 which", x.asked(), 0b0011);
        x.build(0b1111);
        due("21 in the present one alone", x.suspects(), 0);
        x.verdict(0, true);
        x.verdict(1, false);
        x.verdict(2, false);
        due("21 two that passed", x.suspects(), 1);
        due("21 which", x.asked(), 0b0001);
    }

    private static void promise22() {
        TestPicker x = picker(new int[] {1, 1}, new long[] {1, 0});
        due("22 no build", x.badWork(), STATE);
        x.build(0);
        due("22 no verdicts", x.badWork(), 0);
        x.verdict(0, false);
        x.verdict(1, false);
        due("22 passed", x.badWork(), 0);
        x.build(1);
        x.verdict(1, true);
        due("22 a flaky one fell", x.badWork(), 0);
        x.verdict(0, true);
        due("22 another one fell", x.badWork(), 1);
        x.turn(0, 3);
        due("22 an idle one, too", x.badWork(), 1);
        due("22 asked stays", x.asked(), 0);
        x.build(1);
        due("22 in the present one alone", x.badWork(), 0);
    }

    private static void promise23() {
        TestPicker x = picker(new int[] {9, 9, 9, 1}, new long[] {1, 1, 1, 1});
        due("23 no builds", x.fewest(), 0);
        due("23 none", x.asked(), 0);
        // 0 fell in 0, 1; 1 in 2, 3; 2 in 1, 2; 3 in 0, 3: two are enough, {0, 1} or {2, 3}.
        int[][] fell = {{0, 3}, {0, 2}, {1, 2}, {1, 3}};
        for (int[] both : fell) {
            x.build(1);
            x.verdict(both[0], true);
            x.verdict(both[1], true);
        }
        due("23 two", x.fewest(), 2);
        due("23 least time", x.asked(), 0b1100);
        x.turn(2, 1);
        due("23 slow", x.fewest(), 2);
        due("23 least time", x.asked(), 0b0011);
        x.turn(2, 0);
        x.turn(3, 3);
        due("23 idle", x.fewest(), 2);
        due("23 idle", x.asked(), 0b0011);
        x.turn(3, 0);
        x.turn(0, 3);
        due("23 idle", x.fewest(), 2);
        due("23 idle", x.asked(), 0b1100);
        x.turn(0, 0);
        x.build(0);
        x.verdict(3, false);
        due("23 flaky", x.told(3, 4), 1);
        due("23 without the flaky one", x.fewest(), 2);
        due("23 without the flaky one", x.asked(), 0b0011);
        // With 0 out, too, no TEST that counts fell in BUILD 0.
        x.turn(0, 3);
        due("23 what only an idle and a flaky one showed does not count", x.fewest(), 2);
        due("23 what is left", x.asked(), 0b0110);
    }

    private static void promise23Edges() {
        TestPicker x = picker(new int[] {2, 1, 1, 2}, new long[] {1, 1, 1, 1});
        x.build(1);
        for (int t = 0; t < 4; t++) {
            x.verdict(t, true);
        }
        due("23 one", x.fewest(), 1);
        due("23 least time, then least bits", x.asked(), 0b0010);
        // Fewest goes ahead of time.
        TestPicker y = picker(new int[] {1, 1, 1000}, new long[] {1, 1, 1});
        y.build(1);
        y.verdict(0, true);
        y.verdict(2, true);
        y.build(1);
        y.verdict(1, true);
        y.verdict(2, true);
        due("23 fewest first", y.fewest(), 1);
        due("23 fewest first", y.asked(), 0b100);
        // A CHAINED one stands without what it NEEDS.
        TestPicker z = new TestPicker();
        z.test(0, 1, 0);
        for (int t = 1; t < 20; t++) {
            z.test(2, 1, t - 1);
        }
        for (int t = 8; t < 20; t++) {
            z.build(0);
            z.verdict(t, true);
        }
        due("23 twelve", z.fewest(), 12);
        due("23 twelve", z.asked(), 0xfff00);
        z.verdict(0, true);
        due("23 thirteen", z.fewest(), SPENT);
        due("23 it stays", z.asked(), 0xfff00);
        z.build(0);
        z.verdict(19, false);
        due("23 a flaky one does not count", z.fewest(), 12);
        due("23 a flaky one does not count", z.asked(), 0x7ff01);
    }

    private static void promise24() {
        TestPicker x = new TestPicker();
        due("24 nothing", x.missed(0), NONE);
        due("24 bits of none", x.missed(1), BAD);
        x.test(0, 1, 0);
        x.test(1, 1, 0);
        x.test(2, 1, 0);
        x.test(3, 1, 0);
        for (int t = 0; t < 4; t++) {
            x.reach(t, 0, 1);
        }
        x.build(1);
        x.verdict(3, true);
        due("24 an idle one does not count", x.missed(0), NONE);
        for (int t = 0; t < 3; t++) {
            x.build(1);
            x.verdict(t, true);
        }
        due("24 first", x.missed(0), 1);
        due("24 behind 0", x.missed(0b0001), 2);
        due("24 behind 0, 1", x.missed(0b0011), 3);
        due("24 without 1", x.missed(0b1101), 2);
        due("24 none", x.missed(0b0111), NONE);
        x.verdict(3, true);
        due("24 an idle one of the set does", x.missed(0b1011), NONE);
        due("24 bits of none", x.missed(16), BAD);
        due("24 bits of none", x.missed(-1), BAD);
        due("24 bits of none", x.missed(LEAST), BAD);
        x.tear(0);
        x.verdict(0, false);
        due("24 0 is flaky", x.told(0, 4), 1);
        due("24 a flaky one does not count", x.missed(0), 2);
        x.anew(0);
        x.reach(0, 0, 1);
        x.build(1);
        x.verdict(0, true);
        x.verdict(1, true);
        x.tear(1);
        x.build(0);
        x.verdict(1, false);
        due("24 1 is flaky", x.told(1, 4), 1);
        due("24 a flaky one of the set does", x.missed(0b0111), NONE);
        due("24 without it", x.missed(0b0110), 1);
        TestPicker y = picker(new int[] {1}, new long[] {1});
        for (int b = 0; b < 60; b++) {
            y.build(1);
        }
        y.verdict(0, true);
        due("24 the last", y.missed(0), 59);
    }

    private static void promise25() {
        TestPicker x = picker(new int[] {1, 1}, new long[] {1, 2});
        due("25 before", x.asked(), 0);
        x.build(7);
        x.change(0);
        due("25 change", x.asked(), 7);
        x.best(1);
        due("25 best", x.asked(), 1);
        x.verdict(1, true);
        x.suspects();
        due("25 suspects", x.asked(), 2);
        x.change(0);
        x.fewest();
        due("25 fewest", x.asked(), 2);
        x.pick(10);
        x.missed(0);
        x.badWork();
        x.run(0);
        x.digest();
        due("25 others leave it", x.asked(), 2);
        x.change(1);
        x.best(-1);
        due("25 so do refused ones", x.asked(), 2);
    }

    private static void promise26() {
        TestPicker x = new TestPicker();
        x.test(0, 1, 0);
        x.test(0, 1, 0);
        x.build(0);
        x.build(0);
        x.build(0);
        x.verdict(0, true);
        x.verdict(0, false);
        due("26 tests", x.count(0), 2);
        due("26 builds", x.count(1), 3);
        due("26 verdicts", x.count(2), 1);
        due("26 what 3", x.count(3), BAD);
        due("26 what -1", x.count(-1), BAD);
        due("26 what least", x.count(LEAST), BAD);
    }

    private static void promise27and28() {
        TestPicker x = new TestPicker();
        x.test(2, 1, 0);
        due("27 before any", x.finding(), 0);
        x.test(0, 1, 0);
        x.test(2, 1, 0);
        x.turn(1, 0);
        due("27 unlike", x.finding(), 3);
        x.byteOf(0, 5);
        due("27 beyond", x.finding(), 2);
        x.copy(0, 0, 0, 0, -1);
        due("27 size", x.finding(), 4);
        x.tear(0);
        x.tear(0);
        due("27 nothing", x.finding(), 1);
        x.byteOf(0, 0);
        x.byteOf(7, 0);
        due("27 it stays", x.finding(), 1);
        due("28 nothing", x.findings(1), 2);
        due("28 beyond", x.findings(2), 1);
        due("28 unlike", x.findings(3), 1);
        due("28 size", x.findings(4), 1);
        due("28 f 0", x.findings(0), BAD);
        due("28 f 5", x.findings(5), BAD);
        due("28 f -1", x.findings(-1), BAD);
        due("28 f greatest", x.findings(GREATEST), BAD);
    }

    private static void promise29() {
        TestPicker x = new TestPicker();
        due("29 nothing", x.digest(), 17);
        x.test(1, 4, 0);
        x.reach(0, 1, 200);
        x.test(2, 3, 0);
        x.tear(1);
        long[] ofTests = {1, 12, NONE, 0, 0, 0, 1, 0, 200, 0, 0, 0, 2, 3, 0, 0, 0, 0, 2, -1};
        due("29 tests", x.digest(), digest(17, ofTests));
        x.build(ALL_PARTS);
        x.verdict(0, true);
        x.build(5);
        x.verdict(1, false);
        long[] ofTestsNow = {1, 12, NONE, 128, 0, 1, 1, 0, 200, 0, 0, 0, 2, 3, 0, 0, 0, 0, 2, -1};
        long[] ofBuilds = {ALL_PARTS, 1, NONE, 5, NONE, 0};
        due("29 builds", x.digest(), digest(digest(17, ofTestsNow), ofBuilds));
        due("29 it changes nothing", x.digest(), digest(digest(17, ofTestsNow), ofBuilds));
        due("29 no finding", x.finding(), 0);
    }

    /** Twenty TESTS and sixty BUILDS: no row is longer than it may be, and no call goes past its end. */
    private static void allAtTheirMost() {
        TestPicker x = new TestPicker();
        x.test(1, 1000, 0);
        for (int t = 1; t < 20; t++) {
            x.test(t < 8 ? 2 : 0, 1000, t - 1);
        }
        for (int t = 0; t < 20; t++) {
            reachAll(x, t, 3L << 2 * t);
        }
        for (int b = 0; b < 60; b++) {
            x.build(ALL_PARTS);
            x.verdict(b % 12 + 8, true);
        }
        due("most: pick", x.pick(30000), 20);
        due("most: time", x.about(0), 22000);
        due("most: parts", x.about(1), 40);
        due("most: tests", x.about(2), 0xfffff);
        due("most: best", x.best(30000), SPENT);
        due("most: fewest", x.fewest(), 12);
        due("most: fewest", x.asked(), 0xfff00);
        due("most: missed", x.missed(0xfef00), 4);
        due("most: missed", x.missed(0xfffff), NONE);
        due("most: badWork", x.badWork(), 1);
        due("most: run", x.run(0xfffff), 13);
        due("most: suspects", x.suspects(), 26);
        due("most: which", x.asked(), 0xffffff0003L);
        due("most: fewest", x.fewest(), SPENT);
        due("most: verdicts", x.count(2), 72);
        due("most: heat", x.told(18, 3), 128);
    }

    private static long digest(long start, long[] row) {
        long h = start;
        for (long v : row) {
            h = 31 * h + v;
        }
        return h;
    }
}
