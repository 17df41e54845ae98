import java.lang.reflect.Field;
import java.lang.reflect.Method;
import java.lang.reflect.Modifier;
import java.nio.file.Files;
import java.nio.file.Path;
import java.util.List;
import java.util.regex.Matcher;
import java.util.regex.Pattern;

/** What of LANGUAGE.md can be seen from the source and the classes; run from the project's root. */
public final class LanguageTest {
    private static final List<String> NOT_ALLOWED = List.of("import", "package", "try", "catch", "finally",
        "synchronized", "assert", "Object", "Random", "Thread", "File", "native", "transient",
        "volatile", "protected", "hashCode", "equals", "toString", "getClass");

    public static void main(String[] args) throws Exception {
        String source = withoutCommentsAndTexts(Files.readString(Path.of("src/main/java/LzwForms.java")));
        wordsAreAllowed(source);
        Due.holds("no lambda", !source.contains("->"));
        Due.holds("no method reference", !source.contains("::"));
        libraryIsAllowed(source);
        methodsAreShort(source);
        Class<?>[] inside = LzwForms.class.getDeclaredClasses();
        Due.holds("some twelve classes", inside.length + 1 <= 12);
        classIsAllowed(LzwForms.class);
        for (Class<?> one : inside) {
            int modifiers = one.getModifiers();
            Due.holds("static " + one, Modifier.isStatic(modifiers));
            Due.holds("private or package-visible " + one,
                !Modifier.isPublic(modifiers) && !Modifier.isProtected(modifiers));
            classIsAllowed(one);
        }
        Due.end();
    }

    private static String withoutCommentsAndTexts(String source) {
        return source.replaceAll("(?s)/\\*.*?\\*/", "").replaceAll("//[^\n]*", "")
            .replaceAll("\"[^\"\n]*\"", "\"\"");
    }

    private static void wordsAreAllowed(String source) {
        for (String word : NOT_ALLOWED) {
            Due.holds("no " + word, !Pattern.compile("\\b" + word + "\\b").matcher(source).find());
        }
    }

    private static void libraryIsAllowed(String source) {
        Matcher call = Pattern.compile("\\b(Math|System|Arrays|Integer|Long)\\.(\\w+)").matcher(source);
        while (call.find()) {
            String name = call.group(1) + "." + call.group(2);
            Due.holds(name, List.of("Math.min", "Math.max", "System.arraycopy", "Arrays.fill").contains(name));
        }
    }

    private static void methodsAreShort(String source) {
        Matcher method = Pattern.compile("(?ms)^( {4}| {8})(\\w[^;\n=]*\\)) \\{$.*?^\\1\\}$").matcher(source);
        int seen = 0;
        while (method.find()) {
            Due.holds("short: " + method.group(2), method.group().lines().count() <= 60);
            seen++;
        }
        Due.holds("methods were seen", seen > 50);
    }

    private static void classIsAllowed(Class<?> one) {
        int fields = 0;
        for (Field field : one.getDeclaredFields()) {
            boolean isStatic = Modifier.isStatic(field.getModifiers());
            fields += isStatic ? 0 : 1;
            Due.holds("final " + field, !isStatic || Modifier.isFinal(field.getModifiers()));
            Due.holds("of the language " + field, isAllowed(field.getType()));
        }
        Due.holds("some twenty fields of " + one, fields <= 20);
        for (Method method : one.getDeclaredMethods()) {
            Due.holds("seven parameters of " + method, method.getParameterCount() <= 7);
        }
    }

    private static boolean isAllowed(Class<?> type) {
        return type == int.class || type == boolean.class || type == int[].class
            || type.getEnclosingClass() == LzwForms.class;
    }
}
