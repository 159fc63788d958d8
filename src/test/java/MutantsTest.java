import java.io.ByteArrayOutputStream;
import java.io.IOException;
import java.io.InputStream;
import java.io.OutputStream;
import java.lang.reflect.Method;
import java.net.URI;
import java.nio.file.Files;
import java.nio.file.Path;
import java.util.HashMap;
import java.util.List;
import java.util.Map;
import javax.tools.FileObject;
import javax.tools.ForwardingJavaFileManager;
import javax.tools.JavaCompiler;
import javax.tools.JavaFileManager;
import javax.tools.JavaFileObject;
import javax.tools.SimpleJavaFileObject;
import javax.tools.ToolProvider;

/**
 * Breaks the class as each case tells (@Broken), and looks whether that case fails then: a case that would pass a class
 * in which its sentence does not hold is no test of it.
 */
public final class MutantsTest {
    private static final Due due = new Due();
    private static final JavaCompiler COMPILER = ToolProvider.getSystemJavaCompiler();

    public static void main(String[] args) throws Exception {
        String source = Files.readString(Path.of("src/main/java/RiverLessons.java"));
        for (String test : Cases.testNames()) {
            for (Method one : Cases.of(Class.forName(test))) {
                for (Broken way : one.getAnnotationsByType(Broken.class)) {
                    String name = test + "." + one.getName() + " with '" + way.to() + "' for '" + way.from() + "'";
                    String broken = broken(source, way);
                    due.holds(name + ": there is such a text in the class", broken != null);
                    if (broken != null) {
                        failsBy(name, compiled(broken), test, one.getName());
                    }
                }
            }
        }
        due.end();
    }

    private static String broken(String source, Broken way) {
        int place = source.indexOf(way.from(), Math.max(0, source.indexOf(way.in())));
        if (source.indexOf(way.in()) < 0 || place < 0) {
            return null;
        }
        return source.substring(0, place) + way.to() + source.substring(place + way.from().length());
    }

    private static void failsBy(String name, Map<String, byte[]> classes, String test, String one) throws Exception {
        due.holds(name + " can be compiled", !classes.isEmpty());
        if (!classes.isEmpty()) {
            Class<?> cases = new Another(classes).loadClass("Cases");
            Method wrongIn = cases.getDeclaredMethod("wrongIn", String.class, String.class);
            wrongIn.setAccessible(true);
            due.holds(name + " fails", (int) wrongIn.invoke(null, test, one) > 0);
        }
    }

    /** The classes by name; none, if the text is no Java. */
    private static Map<String, byte[]> compiled(String source) throws IOException {
        Map<String, ByteArrayOutputStream> written = new HashMap<>();
        try (JavaFileManager files = new InMemory(COMPILER.getStandardFileManager(null, null, null), written)) {
            boolean right = COMPILER.getTask(null, files, null, List.of("-proc:none"), null, List.of(new Text(source))).call();
            Map<String, byte[]> classes = new HashMap<>();
            if (right) {
                written.forEach((name, bytes) -> classes.put(name, bytes.toByteArray()));
            }
            return classes;
        }
    }

    private static final class Text extends SimpleJavaFileObject {
        private final String source;

        Text(String source) {
            super(URI.create("string:///RiverLessons.java"), Kind.SOURCE);
            this.source = source;
        }

        @Override
        public CharSequence getCharContent(boolean ignoreEncodingErrors) {
            return source;
        }
    }

    private static final class InMemory extends ForwardingJavaFileManager<JavaFileManager> {
        private final Map<String, ByteArrayOutputStream> written;

        InMemory(JavaFileManager files, Map<String, ByteArrayOutputStream> written) {
            super(files);
            this.written = written;
        }

        @Override
        public JavaFileObject getJavaFileForOutput(Location location, String name, JavaFileObject.Kind kind, FileObject sibling) {
            return new SimpleJavaFileObject(URI.create("bytes:///" + name), kind) {
                @Override
                public OutputStream openOutputStream() {
                    ByteArrayOutputStream bytes = new ByteArrayOutputStream();
                    written.put(name, bytes);
                    return bytes;
                }
            };
        }
    }

    /** Has another RiverLessons; all tests are loaded again, so that they use it. */
    private static final class Another extends ClassLoader {
        private final Map<String, byte[]> classes;

        Another(Map<String, byte[]> classes) {
            super(ClassLoader.getPlatformClassLoader());
            this.classes = classes;
        }

        @Override
        protected Class<?> findClass(String name) throws ClassNotFoundException {
            byte[] bytes = classes.containsKey(name) ? classes.get(name) : onThePath(name);
            return defineClass(name, bytes, 0, bytes.length);
        }

        private static byte[] onThePath(String name) throws ClassNotFoundException {
            try (InputStream in = MutantsTest.class.getResourceAsStream("/" + name + ".class")) {
                if (in == null) {
                    throw new ClassNotFoundException(name);
                }
                return in.readAllBytes();
            } catch (IOException failed) {
                throw new ClassNotFoundException(name, failed);
            }
        }
    }
}
