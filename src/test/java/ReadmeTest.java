import java.io.IOException;
import java.lang.reflect.Field;
import java.net.URL;
import java.net.URLClassLoader;
import java.nio.file.Files;
import java.nio.file.Path;
import java.util.ArrayList;
import java.util.List;
import java.util.Set;
import java.util.TreeSet;
import java.util.regex.Matcher;
import java.util.regex.Pattern;
import java.util.stream.Stream;
import javax.tools.JavaCompiler;
import javax.tools.ToolProvider;

/** What README.md says: its examples are run, its tables held against the class, its tests against the folder. */
public final class ReadmeTest {
    private static final Path README = Path.of("README.md"), SOURCE = Path.of("src/main/java/BentWords.java"),
        TESTS = Path.of("src/test/java"), RUN = Path.of(".ci/run"), MADE = Path.of("build/readme");
    private static final Pattern EXAMPLE_LINE = Pattern.compile("(?:int (\\w+) = )?(words\\.\\w+\\(.*?\\)); +// (-?\\d+): .*");
    private static final Due d = new Due();

    private ReadmeTest() { }

    public static void main(String[] args) throws Exception {
        String readme = Files.readString(README);
        String source = Files.readString(SOURCE);
        d.on("README.md");
        examples(blocks(readme));
        codes(readme);
        settings(readme);
        calls(readme, source);
        testsByName(readme);
        commands(readme);
        run(Files.readString(RUN));
        d.end();
    }

    private static List<String> blocks(String readme) {
        List<String> blocks = new ArrayList<>();
        Matcher block = Pattern.compile("(?s)```java\n(.*?)```").matcher(readme);
        while (block.find()) {
            blocks.add(block.group(1));
        }
        return blocks;
    }

    /** The first block is an example, each line of it with what it gives; the second one is a method that packs a text. */
    private static void examples(List<String> blocks) throws Exception {
        d.due("blocks of Java", blocks.size(), 2);
        String[] lines = blocks.get(0).split("\n");
        StringBuilder code = new StringBuilder("final class Example {\n").append(blocks.get(1))
            .append("static void calls(Due d) {\n").append(lines[0]).append('\n');
        for (int i = 1; i < lines.length; i++) {
            Matcher line = EXAMPLE_LINE.matcher(lines[i]);
            d.due("a call with what it gives: " + lines[i], line.matches() ? 1 : 0, 1);
            String got = line.group(1) == null ? "got" + i : line.group(1);
            code.append("int ").append(got).append(" = ").append(line.group(2)).append("; d.due(\"").append(line.group(2))
                .append("\", ").append(got).append(", ").append(line.group(3)).append(");\n");
        }
        for (String text : List.of("cat", "0:0=cat+", "1=dog@9", "~")) {
            code.append("d.due(\"packed(").append(text).append(")\", packed(\"").append(text).append("\"), ")
                .append(Due.packed(text)).append("L);\n");
        }
        callExample(code.append("}\n}\n").toString());
    }

    private static void callExample(String code) throws Exception {
        JavaCompiler compiler = ToolProvider.getSystemJavaCompiler();
        if (compiler == null) {
            System.out.println("this java has no compiler in it: the examples are not tried");
            return;
        }
        Files.createDirectories(MADE);
        Path file = MADE.resolve("Example.java");
        Files.writeString(file, code);
        String path = System.getProperty("java.class.path");
        int failed = compiler.run(null, null, null, "-proc:none", "-cp", path, "-d", MADE.toString(), file.toString());
        d.due("compiling the examples", failed, 0);
        List<URL> places = new ArrayList<>(List.of(MADE.toUri().toURL()));
        for (String place : path.split(System.getProperty("path.separator"))) {
            places.add(Path.of(place).toUri().toURL());
        }
        // A loader of its own for all of it: what is package-visible is so within one loader alone.
        try (URLClassLoader loader = new URLClassLoader(places.toArray(new URL[0]), ClassLoader.getPlatformClassLoader())) {
            Class<?> due = loader.loadClass("Due");
            var made = due.getDeclaredConstructor();
            made.setAccessible(true);
            Object inner = made.newInstance();
            var calls = loader.loadClass("Example").getDeclaredMethod("calls", due);
            calls.setAccessible(true);
            calls.invoke(null, inner);
            var wrong = due.getDeclaredMethod("wrong");
            wrong.setAccessible(true);
            d.due("wrong answers of the examples", (int) wrong.invoke(inner), 0);
        }
    }

    private static int constant(String name) throws IllegalAccessException {
        for (Field field : BentWords.class.getFields()) {
            if (field.getName().equals(name)) {
                return field.getInt(null);
            }
        }
        return Integer.MAX_VALUE;
    }

    private static void codes(String readme) throws IllegalAccessException {
        Matcher row = Pattern.compile("\\| `(\\w+)` \\| (-\\d+) \\|").matcher(readme);
        Set<String> named = new TreeSet<>();
        while (row.find()) {
            named.add(row.group(1));
            d.due(row.group(1), constant(row.group(1)), Integer.parseInt(row.group(2)));
        }
        d.due("codes named", named.size(), 6);
    }

    private static void settings(String readme) throws IllegalAccessException {
        Matcher row = Pattern.compile("\\| `(\\w+)` \\| (\\d) \\| (\\d+) to (\\d+) \\| (\\d+) \\|").matcher(readme);
        Set<Integer> named = new TreeSet<>();
        while (row.find()) {
            int setting = Integer.parseInt(row.group(2));
            int lowest = Integer.parseInt(row.group(3));
            int highest = Integer.parseInt(row.group(4));
            named.add(setting);
            d.due(row.group(1), constant(row.group(1)), setting);
            d.dueCount(setting, Integer.parseInt(row.group(5)));
            d.due("below " + row.group(), d.x.set(setting, lowest - 1), BentWords.BAD_VALUE);
            d.due("above " + row.group(), d.x.set(setting, highest + 1), BentWords.BAD_VALUE);
            d.x.set(setting, lowest);
            d.due("the ends of " + row.group(), d.x.set(setting, highest), lowest);
            d.dueCount(setting, highest);
        }
        d.due("settings named", named.size(), 6);
    }

    private static void calls(String readme, String source) {
        Set<String> ofTheClass = found("public int (\\w+\\([^)]*\\)) \\{", source);
        Set<String> told = found("`(\\w+\\((?:(?:int|long) \\w+(?:, )?)*\\))`", readme);
        d.due("calls of the class", ofTheClass.size(), 22);
        d.due("the calls that are told, " + told, told.equals(ofTheClass) ? 1 : 0, 1);
    }

    private static Set<String> found(String pattern, String text) {
        Set<String> all = new TreeSet<>();
        Matcher found = Pattern.compile(pattern).matcher(text);
        while (found.find()) {
            all.add(found.group(1));
        }
        return all;
    }

    private static void testsByName(String readme) throws IOException {
        Set<String> there = new TreeSet<>();
        try (Stream<Path> files = Files.list(TESTS)) {
            files.map(file -> file.getFileName().toString()).filter(name -> name.endsWith("Test.java"))
                .forEach(name -> there.add(name.replace(".java", "")));
        }
        Set<String> told = found("`(\\w+Test)`", readme);
        d.due("the tests that are told, " + told + ", are those of the folder, " + there, told.equals(there) ? 1 : 0, 1);
        for (String name : found("`(\\w+)\\.java`", readme)) {
            d.due(name + ".java is there", Files.isRegularFile(TESTS.resolve(name + ".java")) ? 1 : 0, 1);
        }
    }

    /** The two lines that run a test by itself do so as they stand. */
    private static void commands(String readme) throws IOException, InterruptedException {
        Matcher lines = Pattern.compile("\n    (javac -d build/one .*)\n    (java .*)\n").matcher(readme);
        d.due("the lines for one test", lines.find() ? 1 : 0, 1);
        for (int i = 1; i <= 2; i++) {
            Process process = new ProcessBuilder("sh", "-c", lines.group(i)).inheritIO().start();
            d.due(lines.group(i), process.waitFor(), 0);
        }
    }

    private static void run(String script) {
        d.due("README's .ci/run can be called", Files.isExecutable(RUN) ? 1 : 0, 1);
        for (String part : List.of("-Werror", "src/test/java/*Test.java", "../shared/tests/*.java", "build/")) {
            d.due(".ci/run has " + part, script.contains(part) ? 1 : 0, 1);
        }
    }
}
