import java.lang.reflect.InvocationTargetException;
import java.lang.reflect.Method;
import java.util.Arrays;
import java.util.Comparator;

/**
 * What the tests of single sentences share. Each method that bears Says is one of them, and is found by
 * that: none can be written and then forgotten in a list.
 */
abstract class Sentences {
    static final int BAD = -1, FULL = -2, FINDING = -3, STATE = -4, SPENT = -6, NONE = -9;
    static final int TEST = 0, SLOW = 1, CHAINED = 2, IDLE = 3;
    static final int NOTHING = 1, BEYOND = 2, UNLIKE = 3, SIZE = 4;
    static final int LEAST = Integer.MIN_VALUE, GREATEST = Integer.MAX_VALUE;
    static final long ALL_PARTS = (1L << 40) - 1;
    private static final int[] FAR = {
        LEAST, LEAST + 1, -32, -20, -9, -2, -1, 0, 1, 2, 3, 4, 5, 6, 7, 12, 13, 19, 20, 21, 31, 32, 39, 40, 59,
        60, 61, 63, 64, 128, 255, 256, 1000, 1001, 30000, 30001, 65536, GREATEST - 1, GREATEST
    };

    private final Due answers = new Due(getClass().getName());
    private String sentence = "";
    private int lookedInSentence = 0;

    final void testAll() throws IllegalAccessException {
        Method[] methods = getClass().getDeclaredMethods();
        Arrays.sort(methods, Comparator.comparing(Method::getName));
        for (Method method : methods) {
            Says says = method.getAnnotation(Says.class);
            if (says != null) {
                test(method, says.value());
            }
        }
        answers.finish();
    }

    private void test(Method method, String words) throws IllegalAccessException {
        sentence = method.getName() + " [" + words + "] ";
        lookedInSentence = 0;
        try {
            method.invoke(this);
        } catch (InvocationTargetException e) {
            e.getCause().printStackTrace(System.out);
            answers.due(sentence + "threw", 1, 0);
        }
        answers.due(sentence + "looks at something", lookedInSentence > 0 ? 1 : 0, 1);
    }

    final void due(String call, long got, long want) {
        lookedInSentence++;
        answers.due(sentence + call, got, want);
    }

    /** A call that is answered with a FINDING, which is told and counted once. */
    final void dueFinding(TestPicker x, String call, java.util.function.IntSupplier asked, int finding) {
        int before = x.findings(finding);
        due(call, asked.getAsInt(), FINDING);
        due(call + ": finding()", x.finding(), finding);
        due(call + ": findings(" + finding + ")", x.findings(finding), before + 1);
    }

    /** Numbers that are not 0 .. last, the nearest ones among them. */
    static int[] outside(int last) {
        int[] near = {-1, last + 1};
        int[] far = Arrays.stream(FAR).filter(n -> n < 0 || n > last + 1).toArray();
        int[] all = Arrays.copyOf(near, near.length + far.length);
        System.arraycopy(far, 0, all, near.length, far.length);
        return all;
    }

    /** As many plain TESTS as there are PARTS told for them, each with a TIME of 1. */
    static TestPicker reaching(long... parts) {
        TestPicker x = new TestPicker();
        for (int t = 0; t < parts.length; t++) {
            add(x, TEST, 1, 0, parts[t]);
        }
        return x;
    }

    static TestPicker plain(int tests) {
        return reaching(new long[tests]);
    }

    static int add(TestPicker x, int kind, int time, int need, long parts) {
        int made = x.test(kind, time, need);
        reachAll(x, made, parts);
        return made;
    }

    static void reachAll(TestPicker x, int test, long parts) {
        for (int i = 0; i < 5; i++) {
            int b = (int) (parts >>> 8 * i & 255);
            if (x.byteOf(test, i) != b) {
                x.reach(test, i, b);
            }
        }
    }

    static long reachOf(TestPicker x, int test) {
        long parts = 0;
        for (int i = 0; i < 5; i++) {
            parts |= (long) x.byteOf(test, i) << 8 * i;
        }
        return parts;
    }

    static void builds(TestPicker x, int how, long change) {
        for (int b = 0; b < how; b++) {
            x.build(change);
        }
    }

    /** The latest pick as a number: its TESTS in their order, one behind the other, in base 100. */
    static long rowOf(TestPicker x) {
        long row = 0;
        for (int i = 0; x.picked(i) != NONE; i++) {
            row = 100 * row + x.picked(i) + 1;
        }
        return row;
    }

    /** The same number for a row that is due. */
    static long row(int... tests) {
        long row = 0;
        for (int t : tests) {
            row = 100 * row + t + 1;
        }
        return row;
    }
}
