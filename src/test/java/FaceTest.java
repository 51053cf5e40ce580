import java.io.IOException;
import java.lang.reflect.Constructor;
import java.lang.reflect.Field;
import java.lang.reflect.Method;
import java.lang.reflect.Modifier;
import java.nio.charset.StandardCharsets;
import java.nio.file.Files;
import java.nio.file.Path;
import java.util.ArrayList;
import java.util.Arrays;
import java.util.HashSet;
import java.util.List;
import java.util.Set;
import java.util.TreeSet;
import java.util.regex.Matcher;
import java.util.regex.Pattern;
import java.util.stream.Collectors;

/** The public face is the document's, and the source keeps to what can be told of LANGUAGE.md by its looks. */
public final class FaceTest {
    private static final Due due = new Due("FaceTest");

    public static void main(String[] args) throws IOException {
        Path root = Path.of(args.length > 0 ? args[0] : ".").toAbsolutePath();
        String document = Files.readString(root.resolveSibling("shared").resolve("DOC.md"));
        String source = Files.readString(root.resolve("src/main/java/DedupVault.java"), StandardCharsets.ISO_8859_1);
        face(document);
        noOtherMembers();
        innerClasses();
        source(source);
        methodLengths(source);
        due.end();
    }

    private static void face(String document) {
        int from = document.indexOf("public final class DedupVault {");
        String block = document.substring(from, document.indexOf("```", from));
        Set<String> want = new TreeSet<>();
        Matcher m = Pattern.compile("public (?:(\\w+) )?(\\w+)\\(([^)]*)\\)(?: throws ([^;]*))?;").matcher(block);
        while (m.find()) {
            String types = Arrays.stream(m.group(3).split(", *")).map(p -> p.split(" ")[0]).collect(Collectors.joining(","));
            String thrown = m.group(4) == null ? "" : m.group(4).replace(" ", "");
            want.add(m.group(1) + " " + m.group(2) + "(" + types + ") " + thrown);
        }
        Set<String> got = new TreeSet<>();
        for (Method method : DedupVault.class.getDeclaredMethods()) {
            if (Modifier.isPublic(method.getModifiers())) {
                got.add(method.getReturnType() + " " + method.getName() + "(" + names(method.getParameterTypes()) + ") "
                        + names(method.getExceptionTypes()));
            }
        }
        for (Constructor<?> made : DedupVault.class.getDeclaredConstructors()) {
            got.add("null " + made.getName() + "(" + names(made.getParameterTypes()) + ") "
                    + names(made.getExceptionTypes()));
        }
        due.same("the face of the document has 37 methods and a constructor", want.size(), 38);
        due.sameText("the face", got.toString(), want.toString());
        due.same("the class is public and final",
                DedupVault.class.getModifiers() == (Modifier.PUBLIC | Modifier.FINAL), true);
        due.same("the class is in no package", DedupVault.class.getPackageName().isEmpty(), true);
    }

    private static String names(Class<?>[] types) {
        return Arrays.stream(types).map(Class::getSimpleName).collect(Collectors.joining(","));
    }

    private static void noOtherMembers() {
        Set<String> open = new HashSet<>();
        for (Method method : DedupVault.class.getDeclaredMethods()) {
            if (Modifier.isPublic(method.getModifiers())) {
                due.same(method.getName() + " is of the object", Modifier.isStatic(method.getModifiers()), false);
                open.add(method.getName());
            }
        }
        for (Method method : DedupVault.class.getDeclaredMethods()) {
            boolean isOpen = Modifier.isPublic(method.getModifiers());
            due.same(method + " is public or private", isOpen || Modifier.isPrivate(method.getModifiers()), true);
            due.same(method + " has a name of its own", isOpen || !open.contains(method.getName()), true);
        }
        for (Field field : DedupVault.class.getDeclaredFields()) {
            boolean none = field.getName().equals("NONE") && field.getType() == int.class;
            due.same(field + " is private", none || Modifier.isPrivate(field.getModifiers()), true);
            due.same(field + " is NONE", Modifier.isPublic(field.getModifiers()), none);
            staticIsConstant(field);
        }
    }

    private static void staticIsConstant(Field field) {
        if (Modifier.isStatic(field.getModifiers())) {
            due.same(field + " is a constant",
                    Modifier.isFinal(field.getModifiers()) && field.getType() == int.class, true);
        }
    }

    private static void innerClasses() {
        Set<String> open = new HashSet<>();
        for (Method method : DedupVault.class.getMethods()) {
            open.add(method.getName());
        }
        Class<?>[] inner = DedupVault.class.getDeclaredClasses();
        due.same("classes", inner.length <= 11, true);
        for (Class<?> c : inner) {
            due.same(c + " is private and static", (c.getModifiers() & (Modifier.PRIVATE | Modifier.STATIC))
                    == (Modifier.PRIVATE | Modifier.STATIC), true);
            due.same(c + " has few fields", c.getDeclaredFields().length <= 20, true);
            for (Field field : c.getDeclaredFields()) {
                staticIsConstant(field);
            }
            for (Method method : c.getDeclaredMethods()) {
                due.same(method + " has a name of its own", open.contains(method.getName()), false);
                due.same(method + " takes few arguments", method.getParameterCount() <= 7, true);
            }
        }
    }

    private static void source(String text) {
        boolean ascii = text.chars().allMatch(c -> c == '\n' || c >= 32 && c < 127);
        due.same("the source has signs of ASCII alone", ascii, true);
        due.same("one import", text.split("\nimport |^import ", -1).length - 1, 1);
        due.same("the import is ArrayList's", text.startsWith("import java.util.ArrayList;\n"), true);
        String code = text.replaceAll("(?s)/\\*.*?\\*/", "").replaceAll("//[^\n]*", "");
        String[] ruledOut = {"->", "::", "\\bassert\\b", "\\bsynchronized\\b", "\\bfinally\\b", "\\btry\\b", "\\bcatch\\b",
            "\\bprotected\\b", "\\bstatic\\s*\\{", "\\bjava\\.(?!util\\.ArrayList;)", "\\bSystem\\b", "\\bThread\\b",
            "\\.equals\\b", "hashCode", "toString", "\"", "Exact\\b", "\\bvar\\b", "\\binstanceof\\b", "\\bfor \\([^;)]*:"};
        for (String sign : ruledOut) {
            due.same("the source has no " + sign, Pattern.compile(sign).matcher(code).find(), false);
        }
        Matcher math = Pattern.compile("\\bMath\\.(\\w+)").matcher(code);
        while (math.find()) {
            due.same("Math." + math.group(1), math.group(1).equals("min") || math.group(1).equals("max"), true);
        }
        Matcher thrown = Pattern.compile("\\bthrow ([^;]*);").matcher(code);
        while (thrown.find()) {
            due.same("throw " + thrown.group(1), thrown.group(1).matches(
                    "new (IllegalState|IllegalArgument|IndexOutOfBounds)Exception\\(\\)"), true);
        }
    }

    private static void methodLengths(String text) {
        List<String> lines = new ArrayList<>(Arrays.asList(text.split("\n")));
        int from = -1;
        for (int i = 0; i < lines.size(); i++) {
            String line = lines.get(i);
            if (line.endsWith(") {") && line.matches(" {4}( {4})?[A-Za-z].*") && !line.contains(" class ")) {
                from = i;
            }
            if (from >= 0 && line.matches(" {4}( {4})?\\}")) {
                due.same("the method in line " + (from + 1) + " is short", i - from <= 60, true);
                from = -1;
            }
            due.same("line " + (i + 1) + " is short", line.length() <= 120, true);
        }
    }
}
