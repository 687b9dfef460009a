import java.io.IOException;
import java.lang.reflect.Field;
import java.lang.reflect.Method;
import java.lang.reflect.Modifier;
import java.nio.file.Files;
import java.nio.file.Path;
import java.util.List;
import java.util.stream.Stream;

/** README.md says how to use the class, truly and wholly, and how to run its tests. */
public final class ReadmeTest {
    private static final Due DUE = new Due("ReadmeTest");
    private static final Path TESTS = Path.of("src/test/java");

    public static void main(String[] args) throws IOException, IllegalAccessException {
        String readme = Files.readString(Path.of("README.md"));
        theExampleHolds();
        theExampleIsThisOne(readme);
        theCalls(readme);
        theAnswers(readme);
        theTests(readme);
        DUE.finish();
    }

    private static void holds(String what, boolean is) {
        DUE.due(what, is ? 1 : 0, 1);
    }

    private static void theExampleHolds() {
        // The example, line by line as README.md has it:
        TestPicker x = new TestPicker();
        int quick = x.test(0, 10, 0);      // a TEST that takes 10
        int after = x.test(2, 4, quick);   // a CHAINED one, which NEEDS the first
        x.reach(quick, 0, 0b0011);         // it reaches the PARTS 0 and 1
        x.reach(after, 0, 0b1100);         // and that one the PARTS 2 and 3
        x.build(0b1110);                   // a BUILD that changed the PARTS 1, 2 and 3
        int many = x.pick(30);             // 2: how many TESTS are picked
        int first = x.picked(0);           // quick: what is NEEDED comes ahead
        int reached = x.best(30);          // 3: so many PARTS of the CHANGE can be reached
        long by = x.asked();               // 0b11: by these TESTS
        int came = x.run(1 << after);      // 2: the PICK runs, and `after` falls
        int suspects = x.suspects();       // 2: so many PARTS are SUSPECT
        long parts = x.asked();            // 0b1100: these
        int refused = x.byteOf(quick, 5);  // FINDING: a REACH has the bytes 0 to 4
        int why = x.finding();             // 2: BEYOND
        // The example ends.
        DUE.due("many", many, 2);
        DUE.due("first", first, quick);
        DUE.due("reached", reached, 3);
        DUE.due("by", by, 0b11);
        DUE.due("came", came, 2);
        DUE.due("after fell", x.was(after, 0), 1);
        DUE.due("suspects", suspects, 2);
        DUE.due("parts", parts, 0b1100);
        DUE.due("refused", refused, TestPicker.FINDING);
        DUE.due("why", why, 2);
    }

    private static void theExampleIsThisOne(String readme) throws IOException {
        List<String> own = Files.readAllLines(TESTS.resolve("ReadmeTest.java")).stream().map(String::strip).toList();
        int from = own.indexOf("// The example, line by line as README.md has it:") + 1;
        int to = own.indexOf("// The example ends.");
        holds("the example is found", from > 0 && to > from);
        String example = String.join("\n", own.subList(from, to));
        holds("README.md has this example", readme.contains("```java\n" + example + "\n```\n"));
    }

    private static void theCalls(String readme) {
        for (Method m : TestPicker.class.getDeclaredMethods()) {
            if (Modifier.isPublic(m.getModifiers())) {
                long rows = readme.lines().filter(line -> line.startsWith("| `" + m.getName() + "(")).count();
                DUE.due("rows for " + m.getName(), rows, 1);
            }
        }
    }

    private static void theAnswers(String readme) throws IllegalAccessException {
        for (Field f : TestPicker.class.getFields()) {
            String row = "| `" + f.getName() + "` | " + f.getInt(null) + " |";
            String words = "`" + f.getName() + "` (" + f.getInt(null) + ")";
            holds(f.getName() + " and its value", readme.contains(row) || readme.contains(words));
        }
    }

    private static void theTests(String readme) throws IOException {
        holds("how to run them", readme.contains("```sh\n.ci/run\n```"));
        holds("the shared ones", readme.contains("`../shared/tests`"));
        try (Stream<Path> files = Files.list(TESTS)) {
            List<String> names = files.map(f -> f.getFileName().toString()).filter(n -> n.endsWith("Test.java")).toList();
            for (String name : names) {
                holds(name + " is named", readme.contains("`" + name.replace(".java", "") + "`"));
            }
        }
    }
}
