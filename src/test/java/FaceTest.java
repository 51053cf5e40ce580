import java.io.IOException;
import java.lang.reflect.Constructor;
import java.lang.reflect.Field;
import java.lang.reflect.Method;
import java.lang.reflect.Modifier;
import java.nio.charset.StandardCharsets;
import java.nio.file.Files;
import java.nio.file.Path;
import java.util.Arrays;
import java.util.HashSet;
import java.util.Set;
import java.util.TreeSet;
import java.util.regex.Matcher;
import java.util.regex.Pattern;
import java.util.stream.Collectors;

/** The public face is the document's, and nothing else of the class is open. */
public final class FaceTest {
    private static final Due due = new Due("FaceTest");

    public static void main(String[] args) throws IOException {
        Path root = Path.of(args.length > 0 ? args[0] : ".").toAbsolutePath().normalize();
        String document = Files.readString(root.resolveSibling("shared").resolve("DOC.md"));
        String source = Files.readString(root.resolve("src/main/java/DedupVault.java"), StandardCharsets.ISO_8859_1);
        face(document);
        noOtherMembers();
        innerClasses();
        headings(document, source);
        due.end();
    }

    private static void face(String document) {
        int from = document.indexOf("public final class DedupVault {");
        String block = document.substring(from, document.indexOf("```", from));
        Set<String> want = new TreeSet<>();
        Matcher m = Pattern.compile("public (?:(\\w+) )?(\\w+)\\(([^)]*)\\)(?: throws ([^;]*))?;").matcher(block);
        while (m.find()) {
            String types = Arrays.stream(m.group(3).split(", *")).map(p -> p.split(" ")[0]).collect(Collectors.joining(","));
            String thrown = m.group(4) == null ? "" : m.group(4).replace(" ", "");
            want.add(m.group(1) + " " + m.group(2) + "(" + types + ") " + thrown);
        }
        Set<String> got = new TreeSet<>();
        for (Method method : DedupVault.class.getDeclaredMethods()) {
            if (Modifier.isPublic(method.getModifiers())) {
                got.add(method.getReturnType() + " " + method.getName() + "(" + names(method.getParameterTypes()) + ") "
                        + names(method.getExceptionTypes()));
            }
        }
        for (Constructor<?> made : DedupVault.class.getDeclaredConstructors()) {
            got.add("null " + made.getName() + "(" + names(made.getParameterTypes()) + ") "
                    + names(made.getExceptionTypes()));
        }
        due.same("the face of the document has 37 methods and a constructor", want.size(), 38);
        due.sameText("the face", got.toString(), want.toString());
        due.same("the class is public and final",
                DedupVault.class.getModifiers() == (Modifier.PUBLIC | Modifier.FINAL), true);
        due.same("the class is in no package", DedupVault.class.getPackageName().isEmpty(), true);
    }

    private static String names(Class<?>[] types) {
        return Arrays.stream(types).map(Class::getSimpleName).collect(Collectors.joining(","));
    }

    private static void noOtherMembers() {
        Set<String> open = new HashSet<>();
        for (Method method : DedupVault.class.getDeclaredMethods()) {
            if (Modifier.isPublic(method.getModifiers())) {
                due.same(method.getName() + " is of the object", Modifier.isStatic(method.getModifiers()), false);
                open.add(method.getName());
            }
        }
        for (Method method : DedupVault.class.getDeclaredMethods()) {
            boolean isOpen = Modifier.isPublic(method.getModifiers());
            due.same(method + " is public or private", isOpen || Modifier.isPrivate(method.getModifiers()), true);
            due.same(method + " has a name of its own", isOpen || !open.contains(method.getName()), true);
        }
        for (Field field : DedupVault.class.getDeclaredFields()) {
            boolean none = field.getName().equals("NONE") && field.getType() == int.class;
            due.same(field + " is private", none || Modifier.isPrivate(field.getModifiers()), true);
            due.same(field + " is NONE", Modifier.isPublic(field.getModifiers()), none);
            staticIsConstant(field);
        }
    }

    private static void staticIsConstant(Field field) {
        if (Modifier.isStatic(field.getModifiers())) {
            due.same(field + " is a constant",
                    Modifier.isFinal(field.getModifiers()) && field.getType() == int.class, true);
        }
    }

    private static void innerClasses() {
        Set<String> open = new HashSet<>();
        for (Method method : DedupVault.class.getMethods()) {
            open.add(method.getName());
        }
        Class<?>[] inner = DedupVault.class.getDeclaredClasses();
        due.same("classes", inner.length <= 11, true);
        for (Class<?> c : inner) {
            due.same(c + " is private and static", (c.getModifiers() & (Modifier.PRIVATE | Modifier.STATIC))
                    == (Modifier.PRIVATE | Modifier.STATIC), true);
            due.same(c + " has few fields", c.getDeclaredFields().length <= 20, true);
            for (Field field : c.getDeclaredFields()) {
                staticIsConstant(field);
            }
            for (Method method : c.getDeclaredMethods()) {
                due.same(method + " has a name of its own", open.contains(method.getName()), false);
                due.same(method + " takes few arguments", method.getParameterCount() <= 7, true);
            }
        }
    }

    /** The document's words "Ahead of the calls .. the interface says: ---- .." tell under what each call stands. */
    private static void headings(String document, String source) {
        Matcher told = Pattern.compile("Ahead of the calls ([^:]*) the interface says: (---- [^.]*)\\.").matcher(document);
        int at = 0;
        int calls = 0;
        while (told.find()) {
            at = source.indexOf("\n    // " + told.group(2) + "\n", at);
            due.same("the source says in its turn: " + told.group(2), at >= 0, true);
            for (String name : told.group(1).split(", ")) {
                at = source.indexOf(" " + name.replace("`", "") + "(", Math.max(0, at));
                due.same(name + " stands under " + told.group(2), at >= 0, true);
                calls++;
            }
        }
        due.same("calls under a heading", calls, 37);
    }
}
