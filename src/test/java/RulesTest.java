import java.lang.reflect.Constructor;
import java.lang.reflect.Field;
import java.lang.reflect.Method;
import java.lang.reflect.Modifier;
import java.nio.file.Files;
import java.nio.file.Path;
import java.util.Set;
import java.util.TreeSet;
import java.util.regex.Matcher;
import java.util.regex.Pattern;

/** The public face of the document, and those rules of LANGUAGE.md that can be seen from outside. */
public final class RulesTest {
    private static final Due DUE = new Due("RulesTest");
    private static final Path SOURCE = Path.of("src/main/java/TestPicker.java");
    private static final String[] FACE = {
        "int test(int,int,int)", "int turn(int,int)", "int reach(int,int,int)", "int byteOf(int,int)",
        "int tear(int)", "int anew(int)", "int copy(int,int,int,int,int)", "int told(int,int)",
        "int time(int,int)", "int build(long)", "int verdict(int,boolean)", "int was(int,int)",
        "int change(int)", "int often(int,int)", "int pick(int)", "int picked(int)", "int about(int)",
        "int best(int)", "int run(int)", "int suspects()", "int badWork()", "int fewest()",
        "int missed(int)", "long asked()", "int count(int)", "int finding()", "int findings(int)",
        "long digest()"
    };
    private static final String[] CONSTANTS = {"BAD=-1", "FULL=-2", "FINDING=-3", "STATE=-4", "SPENT=-6", "NONE=-9"};
    private static final String[] UNWANTED = {
        "throw", "throws", "try", "catch", "finally", "synchronized", "assert", "import", "package", "volatile",
        "native", "Object", "Random", "System", "Thread", "instanceof", "Exact", "double", "float", "->", "::"
    };

    public static void main(String[] args) throws Exception {
        theFace();
        theConstants();
        theClassesInside();
        theWords(Files.readString(SOURCE));
        DUE.finish();
    }

    private static void same(String what, Set<String> got, Set<String> want) {
        if (!got.equals(want)) {
            System.out.println("RulesTest: " + what + ": " + got + ", due is " + want);
        }
        DUE.due(what, got.equals(want) ? 1 : 0, 1);
    }

    private static void theFace() {
        Set<String> open = new TreeSet<>();
        Set<String> openNames = new TreeSet<>();
        Set<String> hidden = new TreeSet<>();
        for (Method m : TestPicker.class.getDeclaredMethods()) {
            if (Modifier.isPrivate(m.getModifiers())) {
                hidden.add(m.getName());
            } else {
                open.add(signature(m));
                openNames.add(m.getName());
                DUE.due(m + " is public", m.getModifiers(), Modifier.PUBLIC);
            }
        }
        for (Class<?> inside : TestPicker.class.getDeclaredClasses()) {
            for (Method m : inside.getDeclaredMethods()) {
                hidden.add(m.getName());
            }
        }
        same("the methods", open, new TreeSet<>(Set.of(FACE)));
        hidden.retainAll(openNames);
        same("no hidden method has the name of a public one", hidden, new TreeSet<>());
        Constructor<?>[] made = TestPicker.class.getDeclaredConstructors();
        DUE.due("constructors", made.length, 1);
        DUE.due("its parameters", made[0].getParameterCount(), 0);
        DUE.due("it is public", made[0].getModifiers(), Modifier.PUBLIC);
        DUE.due("the class", TestPicker.class.getModifiers(), Modifier.PUBLIC | Modifier.FINAL);
    }

    private static String signature(Method m) {
        StringBuilder text = new StringBuilder(m.getReturnType().getName()).append(' ').append(m.getName()).append('(');
        for (Class<?> type : m.getParameterTypes()) {
            text.append(text.charAt(text.length() - 1) == '(' ? "" : ",").append(type.getName());
        }
        return text.append(')').toString();
    }

    private static void theConstants() throws IllegalAccessException {
        Set<String> open = new TreeSet<>();
        for (Field f : TestPicker.class.getDeclaredFields()) {
            int modifiers = f.getModifiers();
            if (!Modifier.isPrivate(modifiers)) {
                open.add(f.getName() + "=" + f.getInt(null));
                DUE.due(f.getName(), modifiers, Modifier.PUBLIC | Modifier.STATIC | Modifier.FINAL);
            }
        }
        same("the constants", open, new TreeSet<>(Set.of(CONSTANTS)));
    }

    private static void theClassesInside() {
        Class<?>[] inside = TestPicker.class.getDeclaredClasses();
        DUE.due("at most twelve classes", inside.length < 12 ? 1 : 0, 1);
        for (Class<?> c : inside) {
            int modifiers = c.getModifiers();
            DUE.due(c + " is static", Modifier.isStatic(modifiers) ? 1 : 0, 1);
            DUE.due(c + " is not open", modifiers & (Modifier.PUBLIC | Modifier.PROTECTED), 0);
            DUE.due(c + " has few fields", c.getDeclaredFields().length <= 20 ? 1 : 0, 1);
            for (Field f : c.getDeclaredFields()) {
                DUE.due(f + " is no static state", Modifier.isStatic(f.getModifiers()) ? 1 : 0, 0);
            }
        }
        for (Field f : TestPicker.class.getDeclaredFields()) {
            int modifiers = f.getModifiers();
            DUE.due(f + " static is final", Modifier.isStatic(modifiers) && !Modifier.isFinal(modifiers) ? 1 : 0, 0);
        }
    }

    private static void theWords(String source) {
        String code = source.replaceAll("(?s)/\\*.*?\\*/", " ").replaceAll("//[^\n]*", " ");
        for (String word : UNWANTED) {
            boolean isName = Character.isLetter(word.charAt(0));
            Matcher m = Pattern.compile(isName ? "\\b" + word + "\\b" : Pattern.quote(word)).matcher(code);
            DUE.due("no " + word, m.find() ? 1 : 0, 0);
        }
        // Rows are made in the constructor's reach alone: nothing is made behind it.
        Matcher making = Pattern.compile("\\bnew\\b[^;]*;").matcher(code);
        while (making.find()) {
            int start = code.lastIndexOf('\n', making.start()) + 1;
            String line = code.substring(start, making.end()).trim();
            boolean isField = line.startsWith("final ");
            boolean inConstructor = line.matches("(tests|history|plan|sets|findingCounts) = new [^;]*;");
            DUE.due("made once: " + line, isField || inConstructor ? 1 : 0, 1);
        }
    }
}
