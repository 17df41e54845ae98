import java.lang.reflect.Method;
import java.lang.reflect.Modifier;
import java.nio.file.Files;
import java.nio.file.Path;
import java.util.ArrayList;
import java.util.List;
import java.util.Set;
import java.util.TreeSet;
import java.util.regex.Matcher;
import java.util.regex.Pattern;

/** What README.md says of the use of the class is so; run from the project's root. */
public final class ReadmeTest {
    private static final Pattern CALL = Pattern.compile("x\\.(\\w+)\\(([^)]*)\\); +// (-?\\d+|NONE)\\b.*");

    public static void main(String[] args) throws Exception {
        String text = Files.readString(Path.of("README.md"));
        exampleAnswersAsItSays(text);
        tableHasEveryCall(text);
        everyTestIsNamed(text);
        Due.end();
    }

    private static void exampleAnswersAsItSays(String text) throws Exception {
        Matcher block = Pattern.compile("(?s)```java\n(.*?)```").matcher(text);
        Due.holds("README has an example", block.find());
        List<String> lines = new ArrayList<>(block.group(1).lines().toList());
        Due.holds("it makes an object", lines.remove(0).equals("LzwForms x = new LzwForms();"));
        LzwForms x = new LzwForms();
        for (String line : lines) {
            Matcher call = CALL.matcher(line);
            boolean isCall = call.matches();
            Due.holds("a call and its answer: " + line, isCall);
            if (isCall) {
                int due = call.group(3).equals("NONE") ? LzwForms.NONE : Integer.parseInt(call.group(3));
                Due.is(line, answer(x, call.group(1), call.group(2)), due);
            }
        }
        Due.holds("the example has calls", lines.size() > 10);
    }

    private static int answer(LzwForms x, String name, String numbers) throws Exception {
        String[] parts = numbers.isEmpty() ? new String[0] : numbers.split(", ");
        Class<?>[] types = new Class<?>[parts.length];
        Object[] values = new Object[parts.length];
        for (int i = 0; i < parts.length; i++) {
            types[i] = int.class;
            values[i] = Integer.parseInt(parts[i]);
        }
        return (int) LzwForms.class.getMethod(name, types).invoke(x, values);
    }

    private static void tableHasEveryCall(String text) {
        Set<String> told = new TreeSet<>();
        Matcher row = Pattern.compile("(?m)^\\| `(\\w+)\\(([^)]*)\\)` \\|").matcher(text);
        while (row.find()) {
            told.add(row.group(1) + "/" + (row.group(2).isEmpty() ? 0 : row.group(2).split(", ").length));
        }
        Set<String> face = new TreeSet<>();
        for (Method method : LzwForms.class.getDeclaredMethods()) {
            if (Modifier.isPublic(method.getModifiers())) {
                face.add(method.getName() + "/" + method.getParameterCount());
            }
        }
        Due.holds("the calls " + told + " are " + face, told.equals(face));
    }

    private static void everyTestIsNamed(String text) throws Exception {
        try (var files = Files.list(Path.of("src/test/java"))) {
            for (Path file : files.toList()) {
                String name = file.getFileName().toString().replace(".java", "");
                Due.holds("README names " + name, text.contains("`" + name + "`"));
            }
        }
    }
}
