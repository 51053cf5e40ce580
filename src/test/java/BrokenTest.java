import java.io.IOException;
import java.lang.reflect.Field;
import java.lang.reflect.InvocationTargetException;
import java.lang.reflect.Method;
import java.net.URISyntaxException;
import java.nio.charset.StandardCharsets;
import java.nio.file.Files;
import java.nio.file.Path;
import java.util.ArrayList;
import java.util.List;
import java.util.Map;
import java.util.regex.Matcher;
import java.util.regex.Pattern;
import java.util.stream.Collectors;
import java.util.stream.IntStream;

/**
 * Each test that stands for a sentence would fail if the sentence were broken: the class is broken in the ways that the
 * test tells (see Sentence), and the test is run with it. Where the source has changed so that a way no longer fits it,
 * the way is to be written anew.
 */
public final class BrokenTest {
    private static final Due due = new Due("BrokenTest");

    private final String source;
    private final Path testClasses;

    private BrokenTest(String source, Path testClasses) {
        this.source = source;
        this.testClasses = testClasses;
    }

    public static void main(String[] args) throws IOException, URISyntaxException, ReflectiveOperationException {
        Path root = Path.of(args.length > 0 ? args[0] : ".").toAbsolutePath().normalize();
        String source = Files.readString(root.resolve("src/main/java/DedupVault.java"), StandardCharsets.US_ASCII);
        Path classes = Path.of(BrokenTest.class.getProtectionDomain().getCodeSource().getLocation().toURI());
        BrokenTest broken = new BrokenTest(source, classes);
        List<Method> tests = Sentences.inAllTests(root);
        // each test must pass with the class as it is, or its failing would show nothing
        List<String> answers = tests.parallelStream().map(test -> broken.outcome(test, "")).collect(Collectors.toList());
        for (int i = 0; i < answers.size(); i++) {
            due.sameText(title(tests.get(i)) + " with the class as it is", answers.get(i), "passes");
        }
        List<Method> triedTests = new ArrayList<>();
        List<String> triedWays = new ArrayList<>();
        for (Method test : tests) {
            for (Sentence sentence : test.getAnnotationsByType(Sentence.class)) {
                due.same(title(test) + " tells how its sentence is broken", sentence.broken().length > 0, true);
                for (String way : sentence.broken()) {
                    triedTests.add(test);
                    triedWays.add(way);
                }
            }
        }
        String[] seen = new String[triedTests.size()];
        IntStream.range(0, seen.length).parallel()
                .forEach(i -> seen[i] = broken.outcome(triedTests.get(i), triedWays.get(i)));
        for (int i = 0; i < seen.length; i++) {
            due.sameText(title(triedTests.get(i)) + " with " + triedWays.get(i), seen[i], "fails");
        }
        due.end();
    }

    private static String title(Method test) {
        return test.getDeclaringClass().getName() + "." + test.getName();
    }

    private String outcome(Method test, String way) {
        try {
            String changed = way.isEmpty() ? source : changed(way);
            if (changed == null) {
                return "does not fit the source";
            }
            Map<String, byte[]> classes = Compiled.classes(List.of(Compiled.file("DedupVault", changed)));
            if (classes.isEmpty()) {
                return "does not compile";
            }
            return passes(test, new Compiled.Loader(classes, testClasses)) ? "passes" : "fails";
        } catch (IOException | ReflectiveOperationException e) {
            return e.toString();
        }
    }

    private static boolean passes(Method test, ClassLoader loader) throws ReflectiveOperationException {
        Class<?> told = loader.loadClass("Due");
        Field quiet = told.getDeclaredField("quiet");
        quiet.setAccessible(true);
        quiet.setBoolean(null, true);
        Class<?> tests = loader.loadClass(test.getDeclaringClass().getName());
        Method again = tests.getDeclaredMethod(test.getName());
        again.setAccessible(true);
        try {
            again.invoke(null);
        } catch (InvocationTargetException e) {
            return false;
        }
        Field kept = tests.getDeclaredField("due");
        kept.setAccessible(true);
        Method wrong = told.getDeclaredMethod("wrong");
        wrong.setAccessible(true);
        return (int) wrong.invoke(kept.get(null)) == 0;
    }

    // ---- the changes

    private String changed(String ways) {
        String text = source;
        for (String way : ways.split(" ## ", -1)) {
            text = text == null ? null : changed(text, way);
        }
        return text;
    }

    private static String changed(String text, String way) {
        if (way.startsWith("in ")) {
            return begun(text, way.substring(3, way.indexOf(": ")), way.substring(way.indexOf(": ") + 2));
        }
        int arrow = way.indexOf(" => ");
        int mark = way.indexOf(" ... ");
        if (arrow < 0) {
            return null;
        }
        String old = way.substring(mark < 0 ? 0 : mark + 5, arrow);
        int from = mark < 0 ? 0 : text.indexOf(way.substring(0, mark));
        int at = from < 0 ? -1 : text.indexOf(old, from);
        boolean clear = at >= 0 && (mark >= 0 || text.indexOf(old, at + 1) < 0);
        return clear ? text.substring(0, at) + way.substring(arrow + 4) + text.substring(at + old.length()) : null;
    }

    private static String begun(String text, String method, String statement) {
        Matcher m = Pattern.compile("public \\w+ " + method + "\\([^)]*\\)[^{;]*\\{").matcher(text);
        return m.find() ? text.substring(0, m.end()) + " " + statement + text.substring(m.end()) : null;
    }
}
