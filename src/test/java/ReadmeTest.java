import java.io.IOException;
import java.lang.reflect.InvocationTargetException;
import java.lang.reflect.Method;
import java.lang.reflect.Modifier;
import java.nio.file.Files;
import java.nio.file.Path;
import java.util.TreeSet;
import java.util.regex.Matcher;
import java.util.regex.Pattern;
import java.util.stream.Stream;

/** README.md: the answers of its example are those that the class gives, and its tables leave nothing out. */
public final class ReadmeTest {
    private static final Check C = new Check("ReadmeTest");
    private static final Pattern CALL = Pattern.compile("board\\.(\\w+)\\((.*?)\\); +// (throws )?(\\S+)(?: \\(.*\\))?");

    public static void main(String[] args) throws IOException {
        String readme = Files.readString(Path.of("README.md"));
        example(readme);
        exceptions(readme);
        tests(readme);
        C.end();
    }

    private static void example(String readme) {
        int start = readme.indexOf("```java\nPlugboard board = new Plugboard();\n");
        C.same("the example makes an object", true, start >= 0);
        String block = readme.substring(start + 8, readme.indexOf("\n```", start + 8));
        Plugboard board = new Plugboard();
        int calls = 0;
        for (String line : block.split("\n")) {
            if (!line.startsWith("board.")) {
                continue;
            }
            Matcher matcher = CALL.matcher(line);
            C.same(line + " tells its answer", true, matcher.matches());
            String due = (matcher.group(3) == null ? "" : "throws ") + matcher.group(4);
            C.same(line, due, answer(board, matcher.group(1), matcher.group(2)));
            calls++;
        }
        C.same("the example has calls", true, calls > 20);
    }

    private static String answer(Plugboard board, String name, String arguments) {
        String[] words = arguments.isEmpty() ? new String[0] : arguments.split(", ");
        try {
            Method method = method(name);
            Object[] values = new Object[words.length];
            for (int i = 0; i < words.length; i++) {
                values[i] = value(method.getParameterTypes()[i], words[i]);
            }
            return String.valueOf(method.invoke(board, values));
        } catch (InvocationTargetException e) {
            return "throws " + e.getCause().getClass().getSimpleName();
        } catch (ReflectiveOperationException e) {
            return e.toString();
        }
    }

    private static Method method(String name) throws NoSuchMethodException {
        for (Method method : Plugboard.class.getDeclaredMethods()) {
            if (method.getName().equals(name) && Modifier.isPublic(method.getModifiers())) {
                return method;
            }
        }
        throw new NoSuchMethodException(name);
    }

    private static Object value(Class<?> type, String word) {
        if (type == boolean.class) {
            return Boolean.valueOf(word);
        }
        return type == char.class ? (Object) word.charAt(1) : (Object) Integer.valueOf(word);
    }

    /** The table of exceptions names each method that declares one, and no other. */
    private static void exceptions(String readme) {
        TreeSet<String> due = new TreeSet<>();
        for (Method method : Plugboard.class.getDeclaredMethods()) {
            if (Modifier.isPublic(method.getModifiers())) {
                for (Class<?> thrown : method.getExceptionTypes()) {
                    due.add(thrown.getSimpleName() + " of " + method.getName());
                }
            }
        }
        TreeSet<String> got = new TreeSet<>();
        String exception = "";
        for (String line : section(readme, "### Exceptions", "### Bounds").split("\n")) {
            String[] cells = line.split(" *\\| *");
            if (cells.length < 4) {
                continue;
            }
            exception = cells[1].isEmpty() ? exception : cells[1].replace("`", "");
            if (cells[2].equals("every method with a user")) {
                for (Method method : Plugboard.class.getDeclaredMethods()) {
                    if (Modifier.isPublic(method.getModifiers()) && hasUser(method)) {
                        got.add(exception + " of " + method.getName());
                    }
                }
            }
            Matcher names = Pattern.compile("`(\\w+)`").matcher(cells[2]);
            while (names.find()) {
                got.add(exception + " of " + names.group(1));
            }
        }
        for (String one : due) {
            C.same(one + " is told", true, got.contains(one));
        }
        for (String one : got) {
            C.same(one + " is declared", true, due.contains(one));
        }
    }

    private static boolean hasUser(Method method) {
        return method.getParameterCount() > 0 && !method.getName().equals("userOf")
                && !method.getName().equals("clockOf");
    }

    private static void tests(String readme) throws IOException {
        String part = section(readme, "## How to run its tests", "\n## ");
        try (Stream<Path> files = Files.list(Path.of("src/test/java"))) {
            for (Path file : files.sorted().toList()) {
                String name = file.getFileName().toString().replace(".java", "");
                boolean isNamed = part.contains(name.endsWith("Test") ? "| `" + name + "` |" : "`" + name + "`");
                C.same(name + " is told", true, isNamed);
            }
        }
        Matcher rows = Pattern.compile("(?m)^\\| `(\\w+)` \\|").matcher(part);
        while (rows.find()) {
            Path file = Path.of("src/test/java/" + rows.group(1) + ".java");
            C.same(file + " is there", true, Files.exists(file));
        }
    }

    private static String section(String text, String from, String to) {
        int start = text.indexOf(from);
        C.same("README.md has " + from, true, start >= 0);
        int end = text.indexOf(to, start + from.length());
        return text.substring(start, end < 0 ? text.length() : end);
    }
}
