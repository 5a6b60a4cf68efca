import java.io.IOException;
import java.lang.reflect.Executable;
import java.lang.reflect.Field;
import java.lang.reflect.Method;
import java.lang.reflect.Modifier;
import java.nio.file.Files;
import java.nio.file.Path;
import java.util.ArrayList;
import java.util.List;
import java.util.Set;
import java.util.TreeSet;
import java.util.regex.Matcher;
import java.util.regex.Pattern;

/** What a look at the source and at the compiled classes can tell of the rules of LANGUAGE.md. */
public final class LanguageTest {
    private static final Path SOURCE =
            Path.of(System.getProperty("project", "."), "src/main/java/SerialBus.java");
    private static final Set<String> IMPORTS =
            Set.of("java.util.Arrays", "java.util.NoSuchElementException");
    private static final Set<Class<?>> CONSTANTS =
            Set.of(int.class, long.class, boolean.class, char.class, String.class);
    private static final String[] NOT_USED = {
        "->", "::", "try", "catch", "finally", "synchronized", "assert", "package", "static {",
        "System", "Thread", "Random", "equals", "hashCode", "toString", "double", "float"
    };
    private static final Pattern THROW = Pattern.compile("throw new (\\w+)\\(\\);");
    private static final Set<String> EXCEPTIONS = Set.of(
            "IllegalStateException", "IllegalArgumentException", "UnsupportedOperationException",
            "NoSuchElementException");

    public static void main(String[] args) throws IOException {
        List<String> lines = Files.readAllLines(SOURCE);
        String code = withoutCommentsAndTexts(String.join("\n", lines));
        oneFileWithFewImports(code);
        wordsThatAreNotUsed(code);
        throwsByAWrittenText(code);
        methodsAreShort(lines);
        List<Class<?>> classes = new ArrayList<>(List.of(SerialBus.class.getDeclaredClasses()));
        Due.is("rule 11: classes", classes.size() < 12, true);
        for (Class<?> inside : classes) {
            int modifiers = inside.getModifiers();
            Due.is("rule 1: " + inside + " is static", Modifier.isStatic(modifiers), true);
            boolean open = Modifier.isPublic(modifiers) || Modifier.isProtected(modifiers);
            Due.is("rule 1: " + inside + " is private or package-visible", open, false);
        }
        classes.add(SerialBus.class);
        classes.forEach(LanguageTest::fieldsAndMethods);
        Due.finish();
    }

    private static String withoutCommentsAndTexts(String source) {
        return source.replaceAll("(?s)/\\*.*?\\*/", "").replaceAll("//.*", "").replaceAll("\"[^\"]*\"", "");
    }

    private static void oneFileWithFewImports(String code) {
        Matcher imports = Pattern.compile("import ([\\w.]+);").matcher(code);
        Set<String> found = new TreeSet<>();
        while (imports.find()) {
            found.add(imports.group(1));
        }
        Due.is("rule 4: imports", found, new TreeSet<>(IMPORTS));
    }

    private static void wordsThatAreNotUsed(String code) {
        for (String word : NOT_USED) {
            String boundary = Character.isLetter(word.charAt(0)) ? "(?<!\\w)" : "";
            String end = Character.isLetter(word.charAt(word.length() - 1)) ? "(?!\\w)" : "";
            boolean used = Pattern.compile(boundary + Pattern.quote(word) + end).matcher(code).find();
            Due.is("rules 2, 5, 6, 13: " + word, used, false);
        }
    }

    private static void throwsByAWrittenText(String code) {
        Matcher throwing = Pattern.compile("\\bthrow\\b[^;]*;").matcher(code);
        while (throwing.find()) {
            Matcher statement = THROW.matcher(throwing.group());
            boolean named = statement.matches() && EXCEPTIONS.contains(statement.group(1));
            Due.is("rule 6: " + throwing.group(), named, true);
        }
    }

    /** A method begins and ends at the indent of its class and four more. */
    private static void methodsAreShort(List<String> lines) {
        int begin = 0;
        for (int i = 0; i < lines.size(); i++) {
            String line = lines.get(i);
            if (line.matches(" {4}(?: {4})?[\\w<>\\[\\] ]+\\(.*")) {
                begin = i;
            } else if (line.matches(" {4}(?: {4})?}")) {
                Due.is("rule 11: lines of " + lines.get(begin).trim(), i - begin < 60, true);
            }
        }
    }

    private static void fieldsAndMethods(Class<?> type) {
        int own = 0;
        for (Field field : type.getDeclaredFields()) {
            if (Modifier.isStatic(field.getModifiers())) {
                Due.is("rule 5: " + field, Modifier.isFinal(field.getModifiers()), true);
                Due.is("rule 5: type of " + field, CONSTANTS.contains(field.getType()), true);
            } else {
                own++;
            }
        }
        Due.is("rule 11: fields of " + type, own <= 20, true);
        List<Executable> all = new ArrayList<>(List.of(type.getDeclaredConstructors()));
        all.addAll(List.of(type.getDeclaredMethods()));
        for (Executable method : all) {
            Due.is("rule 11: parameters of " + method, method.getParameterCount() <= 7, true);
            boolean open = Modifier.isPublic(method.getModifiers());
            boolean sameName = method instanceof Method && !open && isOfTheFace(method.getName());
            Due.is("rule 1: name of " + method, sameName, false);
        }
    }

    private static boolean isOfTheFace(String name) {
        for (Method method : SerialBus.class.getDeclaredMethods()) {
            if (Modifier.isPublic(method.getModifiers()) && method.getName().equals(name)) {
                return true;
            }
        }
        return false;
    }
}
