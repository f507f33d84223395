import java.io.IOException;
import java.lang.reflect.Constructor;
import java.lang.reflect.Field;
import java.lang.reflect.Method;
import java.lang.reflect.Modifier;
import java.nio.file.Files;
import java.nio.file.Path;
import java.util.Set;
import java.util.TreeSet;
import java.util.regex.Matcher;
import java.util.regex.Pattern;

/** The public face, and the rules of LANGUAGE.md that can be seen from outside a method or by its words. */
public final class FaceTest {
    private static final Due d = new Due();
    private static final Set<String> METHODS = Set.of("set(int,int)", "know(int)", "add(int)", "answer()", "bend(int,int)",
        "drop(int)", "trust(int,int)", "word(int,int)", "vote(int,int,int)", "solver(int,int)", "count(int)", "lacking(int)",
        "answersFor(int,int)", "ifVoted(int,int,int)", "mostMissed()", "nearest()", "put(long)", "wipe()", "fault()",
        "undo()", "save(int)", "restore(int)");
    private static final Set<String> CONSTANTS = Set.of("NO_SUCH=-1", "BAD_VALUE=-2", "BAD_TEXT=-3", "TOO_MANY=-4",
        "NOT_POSSIBLE=-5", "NONE=-6", "AGREE=0", "LEAD=1", "EARLY=2", "FAST=3", "UP=4", "DOWN=5");
    /** What rules 2, 4, 6 and 13 leave out, or leave of the library. */
    private static final String[] RULED_OUT = {"\\b(import|throws?|try|catch|finally|synchronized|assert|volatile|native)\\b",
        "->", "::", "\\b(equals|hashCode|toString|getClass|printStackTrace)\\b", "\\bSystem\\.(?!arraycopy\\b)", "\\w+Exact\\b",
        "\\bMath\\.(?!max\\b|min\\b|abs\\b)", "\\b(Object|Random|Thread|Runtime|Collections|Exception|Error)\\b", "@\\w+"};

    public static void main(String[] args) throws Exception {
        d.on("the face");
        methods();
        constants();
        constructors();
        classesInside();
        lengths();
        words();
        d.end();
    }

    private static void methods() {
        Class<BentWords> face = BentWords.class;
        d.due("the class is public and final", face.getModifiers(), Modifier.PUBLIC | Modifier.FINAL);
        Set<String> seen = new TreeSet<>();
        Set<String> names = new TreeSet<>();
        for (Method method : face.getDeclaredMethods()) {
            if (Modifier.isPublic(method.getModifiers())) {
                seen.add(signature(method));
                names.add(method.getName());
                d.due("the modifiers of " + method, method.getModifiers(), Modifier.PUBLIC);
                d.due(method + " gives an int", method.getReturnType() == int.class ? 1 : 0, 1);
            }
        }
        d.due("the methods are " + seen, seen.equals(METHODS) ? 1 : 0, 1);
        for (Method method : face.getDeclaredMethods()) {
            if (!Modifier.isPublic(method.getModifiers()) && !method.isSynthetic()) {
                d.due(method + " is private", method.getModifiers() & Modifier.PRIVATE, Modifier.PRIVATE);
                d.due(method + " bears a public name", names.contains(method.getName()) ? 1 : 0, 0);
            }
        }
    }

    private static String signature(Method method) {
        StringBuilder text = new StringBuilder(method.getName()).append('(');
        for (Class<?> type : method.getParameterTypes()) {
            text.append(text.charAt(text.length() - 1) == '(' ? "" : ",").append(type.getName());
        }
        return text.append(')').toString();
    }

    private static void constants() throws IllegalAccessException {
        Set<String> seen = new TreeSet<>();
        for (Field field : BentWords.class.getDeclaredFields()) {
            int modifiers = field.getModifiers();
            if (Modifier.isPublic(modifiers)) {
                d.due("the modifiers of " + field, modifiers, Modifier.PUBLIC | Modifier.STATIC | Modifier.FINAL);
                seen.add(field.getName() + "=" + field.getInt(null));
            } else {
                d.due(field + " is private", modifiers & Modifier.PRIVATE, Modifier.PRIVATE);
                d.due(field + " is no static state", modifiers & (Modifier.STATIC | Modifier.FINAL), modifiers & Modifier.STATIC
                    | (Modifier.isStatic(modifiers) ? Modifier.FINAL : modifiers & Modifier.FINAL));
            }
        }
        d.due("the constants are " + seen, seen.equals(CONSTANTS) ? 1 : 0, 1);
    }

    private static void constructors() {
        Constructor<?>[] all = BentWords.class.getDeclaredConstructors();
        d.due("constructors", all.length, 1);
        d.due("the constructor is public", all[0].getModifiers(), Modifier.PUBLIC);
        d.due("the constructor's parameters", all[0].getParameterCount(), 0);
    }

    private static void classesInside() {
        Class<?>[] inside = BentWords.class.getDeclaredClasses();
        d.due("classes inside, at most 11", Math.max(11, inside.length), 11);
        for (Class<?> one : inside) {
            d.due(one + " is static", one.getModifiers() & Modifier.STATIC, Modifier.STATIC);
            d.due(one + " is not public or protected", one.getModifiers() & (Modifier.PUBLIC | Modifier.PROTECTED), 0);
            d.due("classes in " + one, one.getDeclaredClasses().length, 0);
            int fields = 0;
            for (Field field : one.getDeclaredFields()) {
                fields += Modifier.isStatic(field.getModifiers()) ? 0 : 1;
                d.due(field + " is no static state", field.getModifiers() & Modifier.STATIC, 0);
            }
            d.due("fields of " + one + ", at most 20", Math.max(20, fields), 20);
            d.due(one + " is final, and of no other class", one.isInterface() || one.isEnum()
                || Modifier.isFinal(one.getModifiers()) && one.getSuperclass() == Object.class ? 1 : 0, 1);
            for (Method method : one.getDeclaredMethods()) {
                d.due(method + " is not public or protected", method.getModifiers() & (Modifier.PUBLIC | Modifier.PROTECTED), 0);
                d.due(method + " bears a public name", METHODS.stream().anyMatch(it -> it.startsWith(method.getName() + "(")) ? 1 : 0, 0);
                d.due("parameters of " + method + ", at most 7", Math.max(7, method.getParameterCount()), 7);
            }
        }
    }

    /** Rule 11: a method stays short. They are told apart by how far they stand from the edge, as all of the class is written. */
    private static void lengths() throws IOException {
        String[] lines = Files.readString(Path.of("src/main/java/BentWords.java")).split("\n");
        int methods = 0;
        for (int i = 0; i < lines.length; i++) {
            Matcher head = Pattern.compile("( {4}| {8})(?!private static final class)\\w.*\\) \\{").matcher(lines[i]);
            if (head.matches()) {
                int end = i;
                while (end < lines.length && !lines[end].equals(head.group(1) + "}")) {
                    end++;
                }
                String inside = lines[i].strip();
                if (!inside.startsWith("if ") && !inside.startsWith("for ") && !inside.startsWith("while ") && !inside.startsWith("switch ")) {
                    methods++;
                    d.due("lines of " + inside + ", at most 60", Math.max(60, end - i + 1), 60);
                }
            }
        }
        int declared = BentWords.class.getDeclaredMethods().length + 1;
        for (Class<?> one : BentWords.class.getDeclaredClasses()) {
            declared += one.getDeclaredMethods().length;
        }
        d.due("methods seen, and no constructor but two", methods, declared + 1);
    }

    private static void words() throws IOException {
        String source = Files.readString(Path.of("src/main/java/BentWords.java"));
        String code = source.replaceAll("(?s)/\\*.*?\\*/", " ").replaceAll("//[^\n]*", " ");
        for (String rule : RULED_OUT) {
            Matcher found = Pattern.compile(rule).matcher(code);
            if (found.find()) {
                d.due("what is ruled out: " + found.group(), 1, 0);
            }
        }
    }
}
