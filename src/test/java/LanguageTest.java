import java.io.IOException;
import java.lang.reflect.Field;
import java.lang.reflect.Method;
import java.lang.reflect.Modifier;
import java.nio.file.Files;
import java.nio.file.Path;
import java.util.ArrayList;
import java.util.Arrays;
import java.util.List;
import java.util.Set;
import java.util.TreeSet;

/**
 * Those rules of LANGUAGE.md that can be counted or looked up. Run where .ci/run runs it, since the
 * source is read from there; what is not looked at here is left to a reader.
 */
public final class LanguageTest {
    private static final Path SOURCE = Path.of("src/main/java/StuckSearch.java");
    private static final Set<String> LIBRARY = Set.of("java.util.Arrays", "java.util.ArrayList", "java.util.List",
        "java.util.Iterator", "java.util.NoSuchElementException");
    private static final String[] FORBIDDEN = {"->", "::", "finally", "synchronized", "assert", "static {",
        "getMessage", "hashCode", "toString()", "Exact(", "currentTimeMillis", "nanoTime", "Random", "Thread"};

    public static void main(String[] args) throws IOException {
        List<String> lines = Files.readAllLines(SOURCE);
        List<Class<?>> classes = new ArrayList<>(List.of(StuckSearch.class));
        classes.addAll(Arrays.asList(StuckSearch.class.getDeclaredClasses()));
        libraryAndWords(lines);
        methodLengths(lines);
        classesInside(classes);
        for (Class<?> one : classes) {
            fields(one);
            methods(one);
        }
        Kit.finish();
    }

    private static void libraryAndWords(List<String> lines) {
        Kit.says("LANGUAGE.md, rules 2, 4, 5, 6 and 13");
        for (String line : lines) {
            String text = line.strip();
            if (text.startsWith("import ")) {
                String name = text.substring(7, text.length() - 1);
                Kit.due("the library has " + name, true, () -> LIBRARY.contains(name));
            }
            if (!text.startsWith("*") && !text.startsWith("/*") && !text.startsWith("//")) {
                for (String word : FORBIDDEN) {
                    Kit.due(word + " in " + text, false, () -> text.contains(word));
                }
            }
        }
    }

    /** A method begins in a line that ends with ) { or with its exceptions, and ends as deep as it begins. */
    private static void methodLengths(List<String> lines) {
        Kit.says("LANGUAGE.md, rule 11: methods stay short");
        for (int begin = 0; begin < lines.size(); begin++) {
            String line = lines.get(begin);
            if (line.matches(" +(public|private) .*\\).*\\{")) {
                int end = begin;
                String close = line.substring(0, line.indexOf('p')) + "}";
                while (end < lines.size() && !lines.get(end).equals(close)) {
                    end++;
                }
                int length = end - begin + 1;
                Kit.due(line.strip() + " has some sixty lines at most", true, () -> length <= 60);
            }
        }
    }

    private static void classesInside(List<Class<?>> classes) {
        Kit.says("LANGUAGE.md, rules 1 and 11: classes inside are static, and some twelve");
        Kit.due("classes in all", true, () -> classes.size() <= 12);
        for (Class<?> one : classes.subList(1, classes.size())) {
            int modifiers = one.getModifiers();
            Kit.due(one + " is static", true, () -> Modifier.isStatic(modifiers));
            Kit.due(one + " is seen outside", false,
                () -> Modifier.isPublic(modifiers) || Modifier.isProtected(modifiers));
            Kit.due("classes inside " + one, 0, () -> one.getDeclaredClasses().length);
        }
    }

    private static void fields(Class<?> owner) {
        Kit.says("LANGUAGE.md, rules 3, 5 and 11: static fields are final constants, a class has some twenty others");
        int count = 0;
        for (Field field : owner.getDeclaredFields()) {
            int modifiers = field.getModifiers();
            count += Modifier.isStatic(modifiers) ? 0 : 1;
            if (Modifier.isStatic(modifiers)) {
                Kit.due(field + " is final and a number", true,
                    () -> Modifier.isFinal(modifiers) && field.getType().isPrimitive());
            }
        }
        int others = count;
        Kit.due("fields of " + owner, true, () -> others <= 20);
    }

    private static void methods(Class<?> owner) {
        Kit.says("LANGUAGE.md, rules 1 and 11: names of private methods, and parameters");
        Set<String> face = new TreeSet<>();
        for (Method method : StuckSearch.class.getMethods()) {
            face.add(method.getName());
        }
        for (Method method : owner.getDeclaredMethods()) {
            Kit.due(method + " has at most seven", true, () -> method.getParameterCount() <= 7);
            if (Modifier.isPrivate(method.getModifiers())) {
                Kit.due(method + " bears a name of the face", false, () -> face.contains(method.getName()));
            }
        }
    }
}
