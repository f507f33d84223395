import java.io.ByteArrayOutputStream;
import java.io.IOException;
import java.io.OutputStream;
import java.lang.reflect.Method;
import java.net.URI;
import java.nio.file.Files;
import java.nio.file.Path;
import java.util.HashMap;
import java.util.List;
import java.util.Map;
import java.util.stream.IntStream;
import javax.tools.FileObject;
import javax.tools.ForwardingJavaFileManager;
import javax.tools.JavaCompiler;
import javax.tools.JavaFileManager;
import javax.tools.JavaFileObject;
import javax.tools.SimpleJavaFileObject;
import javax.tools.ToolProvider;

/** Each test of a sentence fails, if the sentence is broken: it is run on the class with each of its breaks. */
public final class BreaksTest {
    private static final Path SOURCE = Path.of("src/main/java/BentWords.java");

    private BreaksTest() { }

    public static void main(String[] args) throws IOException {
        if (ToolProvider.getSystemJavaCompiler() == null) {
            System.out.println("this java has no compiler in it: no breaks are tried");
            return;
        }
        String source = Files.readString(SOURCE);
        List<Edges.Edge> edges = Edges.ofTheDocument();
        List<String> unseen = IntStream.range(0, edges.size()).parallel().boxed()
            .flatMap(i -> unseen(source, edges.get(i), i).stream()).toList();
        unseen.forEach(System.out::println);
        int breaks = edges.stream().mapToInt(edge -> edge.breaks.size()).sum();
        System.out.println(breaks + " breaks, " + unseen.size() + " of them unseen");
        if (!unseen.isEmpty()) {
            System.exit(1);
        }
    }

    private static List<String> unseen(String source, Edges.Edge edge, int number) {
        if (edge.breaks.isEmpty() || !holds(source, number)) {
            return List.of(edge.name() + " has no break, or fails without one");
        }
        return edge.breaks.stream().filter(broken -> isUnseen(source, broken, number))
            .map(broken -> edge.name() + " does not see " + broken).toList();
    }

    private static boolean isUnseen(String source, Edges.Break broken, int number) {
        try {
            return holds(broken.in(source), number);
        } catch (IllegalStateException cannotBeTried) {
            System.out.println(cannotBeTried.getMessage());
            return true;
        }
    }

    private static boolean holds(String source, int number) {
        try {
            Class<?> tests = new Classes(compiled(source)).loadClass("EdgesTest");
            Method holds = tests.getDeclaredMethod("holds", int.class);
            holds.setAccessible(true);
            return (boolean) holds.invoke(null, number);
        } catch (ReflectiveOperationException impossible) {
            throw new IllegalStateException(impossible);
        }
    }

    /** Takes the broken class, and every other one anew from where the tests stand, so that it uses the broken one. */
    private static final class Classes extends ClassLoader {
        private final Map<String, byte[]> broken;

        Classes(Map<String, byte[]> broken) {
            super(ClassLoader.getPlatformClassLoader());
            this.broken = broken;
        }

        @Override
        protected Class<?> findClass(String name) throws ClassNotFoundException {
            byte[] bytes = broken.get(name);
            if (bytes == null) {
                try (var stream = BreaksTest.class.getResourceAsStream(name + ".class")) {
                    bytes = stream.readAllBytes();
                } catch (IOException unreadable) {
                    throw new ClassNotFoundException(name, unreadable);
                }
            }
            return defineClass(name, bytes, 0, bytes.length);
        }
    }

    private static Map<String, byte[]> compiled(String source) {
        JavaCompiler compiler = ToolProvider.getSystemJavaCompiler();
        Map<String, ByteArrayOutputStream> streams = new HashMap<>();
        JavaFileManager files = new ForwardingJavaFileManager<JavaFileManager>(compiler.getStandardFileManager(null, null, null)) {
            @Override
            public JavaFileObject getJavaFileForOutput(Location location, String name, JavaFileObject.Kind kind, FileObject sibling) {
                return new SimpleJavaFileObject(URI.create("memory:///" + name), kind) {
                    @Override
                    public OutputStream openOutputStream() {
                        ByteArrayOutputStream stream = new ByteArrayOutputStream();
                        streams.put(name, stream);
                        return stream;
                    }
                };
            }
        };
        JavaFileObject file = new SimpleJavaFileObject(URI.create("memory:///BentWords.java"), JavaFileObject.Kind.SOURCE) {
            @Override
            public CharSequence getCharContent(boolean ignoreEncodingErrors) {
                return source;
            }
        };
        if (!compiler.getTask(null, files, null, List.of("-proc:none"), null, List.of(file)).call()) {
            throw new IllegalStateException("a break does not compile");
        }
        Map<String, byte[]> classes = new HashMap<>();
        streams.forEach((name, stream) -> classes.put(name, stream.toByteArray()));
        return classes;
    }
}
