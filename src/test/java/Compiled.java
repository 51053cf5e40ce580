import java.io.ByteArrayOutputStream;
import java.io.IOException;
import java.io.OutputStream;
import java.io.StringWriter;
import java.net.URI;
import java.nio.file.Files;
import java.nio.file.Path;
import java.util.HashMap;
import java.util.List;
import java.util.Map;
import javax.tools.FileObject;
import javax.tools.ForwardingJavaFileManager;
import javax.tools.JavaCompiler;
import javax.tools.JavaFileManager;
import javax.tools.JavaFileObject;
import javax.tools.SimpleJavaFileObject;
import javax.tools.StandardJavaFileManager;
import javax.tools.ToolProvider;

/** Compiles texts in memory, so that tests can run with a class that is not the one on disk. */
final class Compiled {
    static final List<String> OPTIONS = List.of("-proc:none", "--release", "17");

    private static final JavaCompiler compiler = ToolProvider.getSystemJavaCompiler();

    private Compiled() {
    }

    static JavaFileObject file(String publicClass, String text) {
        return new SimpleJavaFileObject(URI.create("string:///" + publicClass + ".java"), JavaFileObject.Kind.SOURCE) {
            @Override
            public CharSequence getCharContent(boolean ignoreErrors) {
                return text;
            }
        };
    }

    /** What the files compile to, by the names of the classes; empty if they do not compile. */
    static Map<String, byte[]> classes(List<JavaFileObject> texts) throws IOException {
        Map<String, ByteArrayOutputStream> made = new HashMap<>();
        StringWriter said = new StringWriter();
        try (StandardJavaFileManager files = compiler.getStandardFileManager(null, null, null)) {
            boolean good = compiler.getTask(said, new Kept(files, made), null, OPTIONS, null, texts).call();
            Map<String, byte[]> classes = new HashMap<>();
            if (good) {
                made.forEach((name, bytes) -> classes.put(name, bytes.toByteArray()));
            }
            return classes;
        }
    }

    /** Keeps what the compiler makes, by the names of the classes. */
    private static final class Kept extends ForwardingJavaFileManager<JavaFileManager> {
        private final Map<String, ByteArrayOutputStream> made;

        Kept(JavaFileManager files, Map<String, ByteArrayOutputStream> made) {
            super(files);
            this.made = made;
        }

        @Override
        public JavaFileObject getJavaFileForOutput(Location where, String name, JavaFileObject.Kind kind,
                FileObject sibling) {
            ByteArrayOutputStream bytes = new ByteArrayOutputStream();
            made.put(name, bytes);
            return new SimpleJavaFileObject(URI.create("string:///" + name + kind.extension), kind) {
                @Override
                public OutputStream openOutputStream() {
                    return bytes;
                }
            };
        }
    }

    /** Loads such classes, and others anew from a folder, so that they use these and share nothing with other runs. */
    static final class Loader extends ClassLoader {
        private final Map<String, byte[]> classes;
        private final Path others;

        Loader(Map<String, byte[]> classes, Path others) {
            super(ClassLoader.getPlatformClassLoader());
            this.classes = classes;
            this.others = others;
        }

        @Override
        protected Class<?> findClass(String name) throws ClassNotFoundException {
            byte[] bytes = classes.get(name);
            try {
                bytes = bytes == null ? Files.readAllBytes(others.resolve(name + ".class")) : bytes;
            } catch (IOException e) {
                throw new ClassNotFoundException(name, e);
            }
            return defineClass(name, bytes, 0, bytes.length);
        }
    }
}
