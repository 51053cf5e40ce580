import java.io.IOException;
import java.lang.reflect.InvocationTargetException;
import java.lang.reflect.Method;
import java.nio.file.Files;
import java.nio.file.Path;
import java.util.ArrayList;
import java.util.Arrays;
import java.util.Comparator;
import java.util.List;
import java.util.stream.Collectors;
import java.util.stream.Stream;

/** The tests that stand for a sentence of the document. */
final class Sentences {
    private Sentences() {
    }

    /** Runs each test of a class that stands for a sentence. */
    static void run(Class<?> tests) {
        for (Method test : in(tests)) {
            run(test);
        }
    }

    static void run(Method test) {
        try {
            test.setAccessible(true);
            test.invoke(null);
        } catch (InvocationTargetException e) {
            throw new IllegalStateException(test + " ended by " + e.getCause(), e.getCause());
        } catch (IllegalAccessException e) {
            throw new IllegalStateException(e);
        }
    }

    static List<Method> in(Class<?> tests) {
        return Arrays.stream(tests.getDeclaredMethods())
                .filter(test -> test.getAnnotationsByType(Sentence.class).length > 0)
                .sorted(Comparator.comparing(Method::getName))
                .collect(Collectors.toList());
    }

    /** All of the project's tests that stand for a sentence. */
    static List<Method> inAllTests(Path root) throws IOException, ClassNotFoundException {
        List<String> names;
        try (Stream<Path> files = Files.list(root.resolve("src/test/java"))) {
            names = files.map(file -> file.getFileName().toString()).filter(name -> name.endsWith("Test.java"))
                    .map(name -> name.substring(0, name.length() - ".java".length())).sorted()
                    .collect(Collectors.toList());
        }
        List<Method> all = new ArrayList<>();
        for (String name : names) {
            all.addAll(in(Class.forName(name)));
        }
        return all;
    }
}
