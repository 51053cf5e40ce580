import java.io.ByteArrayOutputStream;
import java.io.IOException;
import java.io.PrintStream;
import java.lang.reflect.Method;
import java.lang.reflect.Modifier;
import java.nio.charset.StandardCharsets;
import java.nio.file.Files;
import java.nio.file.Path;
import java.util.ArrayList;
import java.util.Arrays;
import java.util.List;
import java.util.Map;
import java.util.TreeSet;
import java.util.regex.Matcher;
import java.util.regex.Pattern;
import java.util.stream.Collectors;
import java.util.stream.Stream;

/** README.md's example answers what it says; and it names each call of the face, what that throws, and each test. */
public final class ReadmeTest {
    private static final Due due = new Due("ReadmeTest");

    public static void main(String[] args) throws IOException, ReflectiveOperationException {
        Path root = Path.of(args.length > 0 ? args[0] : ".").toAbsolutePath().normalize();
        String page = Files.readString(root.resolve("README.md"), StandardCharsets.UTF_8);
        example(page, Files.readString(root.resolve("src/main/java/DedupVault.java"), StandardCharsets.US_ASCII));
        calls(page);
        tests(page, root.resolve("src/test/java"));
        due.end();
    }

    private static void example(String page, String source) throws IOException, ReflectiveOperationException {
        int from = page.indexOf("```java\n") + "```java\n".length();
        String text = page.substring(from, page.indexOf("```", from));
        List<String> want = new ArrayList<>();
        Matcher said = Pattern.compile("println\\(.*\\); *// ([^:\n]*):").matcher(text);
        while (said.find()) {
            want.add(said.group(1));
        }
        due.same("lines that the example prints", want.size(), text.split("println", -1).length - 1);
        due.same("the example prints a good deal", want.size() >= 10, true);
        due.sameText("the example", String.join(" ", printed(text, source)), String.join(" ", want));
    }

    private static List<String> printed(String text, String source) throws IOException, ReflectiveOperationException {
        Map<String, byte[]> classes = Compiled.classes(List.of(
                Compiled.file("DedupVault", source), Compiled.file("Example", text)));
        PrintStream before = System.out;
        ByteArrayOutputStream bytes = new ByteArrayOutputStream();
        System.setOut(new PrintStream(bytes, true, StandardCharsets.UTF_8));
        try {
            new Compiled.Loader(classes, Path.of("")).loadClass("Example").getMethod("main", String[].class)
                    .invoke(null, (Object) new String[0]);
        } finally {
            System.setOut(before);
        }
        return bytes.toString(StandardCharsets.UTF_8).lines().collect(Collectors.toList());
    }

    /** Each call has a row of a table, with the exceptions that it throws in their order. */
    private static void calls(String page) {
        TreeSet<String> want = new TreeSet<>();
        for (Method method : DedupVault.class.getDeclaredMethods()) {
            if (Modifier.isPublic(method.getModifiers())) {
                String thrown = Arrays.stream(method.getExceptionTypes())
                        .map(type -> shortName(type)).collect(Collectors.joining(" "));
                want.add(method.getName() + " of " + method.getParameterCount() + ": " + thrown);
            }
        }
        TreeSet<String> got = new TreeSet<>();
        Matcher row = Pattern.compile("(?m)^\\| `(\\w+)\\((.*?)\\)` \\|[^|]*\\|(.*)\\|$").matcher(page);
        while (row.find()) {
            int many = row.group(2).isEmpty() ? 0 : row.group(2).split(", ").length;
            List<String> thrown = new ArrayList<>();
            Matcher name = Pattern.compile("\\*(\\w+)\\*").matcher(row.group(3));
            while (name.find()) {
                thrown.add(name.group(1));
            }
            due.same("one row for " + row.group(1),
                    got.add(row.group(1) + " of " + many + ": " + String.join(" ", thrown)), true);
        }
        due.sameText("the calls and what they throw", got.toString(), want.toString());
    }

    private static String shortName(Class<?> thrown) {
        return Map.of(Due.INDEX, "Index", Due.ARGUMENT, "Argument", Due.STATE, "State").getOrDefault(thrown, "other");
    }

    private static void tests(String page, Path folder) throws IOException {
        TreeSet<String> want = new TreeSet<>();
        try (Stream<Path> files = Files.list(folder)) {
            files.forEach(file -> want.add(file.getFileName().toString().replace(".java", "")));
        }
        TreeSet<String> rows = new TreeSet<>();
        Matcher row = Pattern.compile("(?m)^\\| `(\\w+Test)` \\|").matcher(page);
        while (row.find()) {
            rows.add(row.group(1));
        }
        due.sameText("the tests", rows.toString(),
                want.stream().filter(name -> name.endsWith("Test")).collect(Collectors.toList()).toString());
        for (String name : want) {
            due.same("the page names " + name, Pattern.compile("[`]" + name + "(\\.java)?`").matcher(page).find(), true);
        }
    }
}
