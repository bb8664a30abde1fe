import java.io.IOException;
import java.lang.reflect.Constructor;
import java.lang.reflect.Field;
import java.lang.reflect.Method;
import java.lang.reflect.Modifier;
import java.nio.file.Files;
import java.nio.file.Path;
import java.util.ArrayList;
import java.util.Arrays;
import java.util.List;
import java.util.TreeSet;

/** The document's face, and those rules of ../shared/LANGUAGE.md that a look at the class and its text can tell. */
public final class LanguageTest {
    private static final Check C = new Check("LanguageTest");

    public static void main(String[] args) throws IOException {
        face(Files.readString(Path.of("../shared/DOC.md")));
        classes();
        text(Files.readAllLines(Path.of("src/main/java/Plugboard.java")));
        C.end();
    }

    private static void face(String document) {
        TreeSet<String> due = new TreeSet<>();
        String block = document.substring(document.indexOf("public final class Plugboard {"));
        for (String line : block.substring(0, block.indexOf("\n}")).split("\n")) {
            if (line.startsWith("    public ")) {
                String face = line.trim().replace("NoSuchElementException", "java.util.NoSuchElementException");
                due.add(face.replaceAll("(int|char|boolean) \\w+([,)])", "$1$2").replace(";", ""));
            }
        }
        TreeSet<String> got = new TreeSet<>();
        for (Method method : Plugboard.class.getDeclaredMethods()) {
            if (!Modifier.isPrivate(method.getModifiers())) {
                got.add(method.toGenericString().replace("Plugboard.", "").replace("java.lang.", "")
                        .replaceAll(",(?! )", ", "));
            }
        }
        for (Constructor<?> constructor : Plugboard.class.getDeclaredConstructors()) {
            got.add(constructor.toGenericString());
        }
        C.same("the face", due, new TreeSet<>(normal(got)));
        for (Field field : Plugboard.class.getDeclaredFields()) {
            C.same(field.getName() + " is private", true, Modifier.isPrivate(field.getModifiers()));
        }
    }

    private static List<String> normal(TreeSet<String> signatures) {
        List<String> list = new ArrayList<>();
        for (String signature : signatures) {
            list.add(signature.replaceAll("\\s+", " ").trim());
        }
        return list;
    }

    private static void classes() {
        TreeSet<String> names = new TreeSet<>();
        for (Method method : Plugboard.class.getMethods()) {
            names.add(method.getName());
        }
        Class<?>[] inside = Plugboard.class.getDeclaredClasses();
        C.same("at most some twelve classes", true, inside.length < 12);
        List<Class<?>> all = new ArrayList<>(Arrays.asList(inside));
        all.add(Plugboard.class);
        for (Class<?> one : all) {
            int fields = 0;
            for (Field field : one.getDeclaredFields()) {
                boolean isStatic = Modifier.isStatic(field.getModifiers());
                fields += isStatic ? 0 : 1;
                C.same(field + " is final if it is static", true, !isStatic || Modifier.isFinal(field.getModifiers()));
            }
            C.same(one + " has some twenty fields", true, fields <= 20);
            C.same(one + " is static", true, one == Plugboard.class || Modifier.isStatic(one.getModifiers()));
            for (Method method : one.getDeclaredMethods()) {
                C.same(method + " takes seven", true, method.getParameterCount() <= 7);
                boolean isOfFace = one == Plugboard.class && Modifier.isPublic(method.getModifiers());
                C.same(method + " has a name of its own", true, isOfFace || !names.contains(method.getName()));
            }
        }
    }

    private static void text(List<String> lines) {
        String[] ruledOut = {"->", "::", "synchronized", "assert ", "finally", "static {", "catch", "Exact(", "Float.",
            "Double.", "MIN_VALUE", "MAX_VALUE", "hashCode", "getMessage", "instanceof", "String.", "System.",
            "Random", "Thread", "currentTime", "nanoTime", "new int[]{", "package "};
        int methodStart = 0;
        for (int i = 0; i < lines.size(); i++) {
            String line = lines.get(i);
            String code = line.trim().startsWith("//") || line.trim().startsWith("*") ? "" : line;
            for (String word : ruledOut) {
                C.same("line " + (i + 1) + " has " + word, false, code.contains(word));
            }
            if (line.startsWith("import ")) {
                C.same("import", "import java.util.NoSuchElementException;", line);
            }
            if (line.matches("( {4}| {8})\\S.*[({]$") && !line.contains(" class ")) {
                methodStart = i;
            }
            if (line.matches("( {4}| {8})\\}")) {
                C.same("the method that ends at line " + (i + 1) + " is short", true, i - methodStart <= 60);
            }
            C.same("line " + (i + 1) + " is plain", true, line.chars().allMatch(c -> c >= 32 && c < 127));
        }
    }
}
