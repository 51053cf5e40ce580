import java.io.IOException;
import java.nio.charset.StandardCharsets;
import java.nio.file.Files;
import java.nio.file.Path;
import java.util.List;

/** The source keeps to LANGUAGE.md; and Rules sees it if one does not, or its seeing nothing would show nothing. */
public final class LanguageTest {
    private static final Due due = new Due("LanguageTest");
    private static final String HEAD = "import java.util.ArrayList;\npublic final class DedupVault {\n"
            + "private static final int BOUND = 9;\nprivate int count;\n";

    public static void main(String[] args) throws IOException {
        Path root = Path.of(args.length > 0 ? args[0] : ".").toAbsolutePath().normalize();
        String source = Files.readString(root.resolve("src/main/java/DedupVault.java"), StandardCharsets.ISO_8859_1);
        signsAndLines(source);
        due.sameText("the class", Rules.brokenBy(source).toString(), "[]");
        due.sameText("a plain class", Rules.brokenBy(HEAD + "}\n").toString(), "[]");
        seen();
        due.end();
    }

    private static void signsAndLines(String source) {
        due.same("the source has signs of ASCII alone",
                source.chars().allMatch(c -> c == '\n' || c >= 32 && c < 127), true);
        due.same("one import", source.split("\nimport |^import ", -1).length - 1, 1);
        due.same("the import is ArrayList's", source.startsWith("import java.util.ArrayList;\n"), true);
        due.same("the lines are short", source.lines().allMatch(line -> line.length() <= 120), true);
    }

    private static void seen() throws IOException {
        sees(1, "public int other;");
        sees(2, "void a() { Runnable r = () -> { }; }");
        sees(2, "void a() { Runnable r = this::a; }");
        sees(2, "private class Inner { }");
        sees(2, "static class Open { }");
        sees(2, "void a() { class Local { } }");
        sees(2, "private static final class A extends Thread { }");
        sees(2, "void a() { new Object() { }; }");
        sees(2, "void a() { try { a(); } catch (RuntimeException e) { } }");
        sees(2, "boolean a(Object o) { return o instanceof DedupVault; }");
        sees(2, "int a() { assert count > 0; return 0; }");
        sees(2, "void a() { synchronized (this) { } }");
        sees(2, "@Deprecated int a() { return 0; }");
        sees(2, "void a(ArrayList<DedupVault> all) { for (DedupVault x : all) { } }");
        sees(3, "private Object any;");
        sees(3, "private ArrayList<String> texts;");
        sees(3, "private int[][][] deep;");
        sees(3, "Object a() { return null; }");
        sees(3, "void a() { var x = 1; Object y = null; }");
        sees(3, "double a(double x) { return x % 2.0; }");
        sees(4, "void a() { System.gc(); }");
        sees(4, "double a() { return Math.sqrt(2.0); }");
        sees(4, "int a(int x) { return Math.addExact(x, x); }");
        sees(4, "int a() { return hashCode(); }");
        sees(4, "void a(ArrayList<DedupVault> all) { all.forEach(null); }");
        sees(4, "void a() { new Thread(); }");
        sees(5, "private static int shared = 0;");
        sees(5, "private static final ArrayList<DedupVault> ALL = new ArrayList<DedupVault>();");
        sees(5, "static { }");
        sees(6, "void a() { throw new Error(); }");
        sees(6, "void a(RuntimeException e) { throw e; }");
        sees(6, "public DedupVault() { throw new IllegalStateException(); }");
        sees(6, "public String toString() { return null; }");
        sees(6, "synchronized void a() { }");
        sees(6, "byte a(int x) { return (byte) x; }");
        sees(7, "int a(int x) { return 7 / x; }");
        sees(7, "int a(int x) { return 7 % count; }");
        sees(9, "void a() { for (;;) { } }");
        sees(9, "void a() { while (count != 0) { } }");
        sees(9, "void a(int x) { while (x < BOUND || count == 0) { } }");
        sees(11, "int a(int b, int c, int d, int e, int f, int g, int h, int i) { return b; }");
        sees(11, "void a() {\n" + "count++;\n".repeat(60) + "}");
        sees(11, "private int f" + String.join(", f", List.of("0123456789abcdefghij".split(""))) + ";");
        sees(11, "private static final class A { }".repeat(12).replace("A ", "A%s "));
        sees(11, "int a() { return a(); }");
        sees(11, "int a() { return b(); } int b() { return a(); }");
        sees(11, "int a() { return b(); } int b() { return c(); } int c() { return d(); } int d() { return e(); } "
                + "int e() { return f(); } int f() { return g(); } int g() { return h(); } int h() { return i(); } "
                + "int i() { return 0; }");
        sees(12, "private DedupVault other; void a(DedupVault x) { } public DedupVault() { other = this; }");
        passes("int a() { return b(); } int b() { return c(); } int c() { return d(); } int d() { return e(); } "
                + "int e() { return f(); } int f() { return g(); } int g() { return h(); } int h() { return 0; }");
        passes("void a() { for (int i = 0; i < BOUND && count != 7; i++) { count += i / BOUND; } }");
        passes("void a() {\n" + "count++;\n".repeat(58) + "}");
    }

    private static void sees(int rule, String members) throws IOException {
        List<String> broken = Rules.brokenBy(HEAD + numbered(members) + "\n}\n");
        boolean named = broken.stream().anyMatch(what -> what.startsWith("rule " + rule + ":"));
        due.sameText("rule " + rule + " and " + members, named ? "seen" : broken.toString(), "seen");
    }

    private static void passes(String members) throws IOException {
        due.sameText(members, Rules.brokenBy(HEAD + members + "\n}\n").toString(), "[]");
    }

    /** Several classes need names of their own. */
    private static String numbered(String members) {
        String text = members;
        for (int i = 0; text.contains("%s"); i++) {
            text = text.replaceFirst("%s", Integer.toString(i));
        }
        return text;
    }
}
