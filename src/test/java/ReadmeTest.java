import java.io.IOException;
import java.lang.reflect.InvocationTargetException;
import java.lang.reflect.Method;
import java.lang.reflect.Modifier;
import java.nio.file.Files;
import java.nio.file.Path;
import java.util.ArrayList;
import java.util.HashMap;
import java.util.List;
import java.util.Map;
import java.util.regex.Matcher;
import java.util.regex.Pattern;

/**
 * README.md tells the truth: each line of its example answers the number that its comment begins with,
 * and each call of the class stands in its table. Run from the project's root.
 */
public final class ReadmeTest {
    private static final Path README = Path.of("README.md");
    private static final Pattern EXAMPLE = Pattern.compile("(?s)```java\n(.*?)```");
    private static final Pattern LINE = Pattern.compile("(?:int (\\w+) = )?(x\\..*); +// (-?\\d+): .*");
    private static final Pattern CALL = Pattern.compile("x\\.(\\w+)\\(([^()]*)\\)");
    private static final String FIRST_LINE = "VersionMerge x = new VersionMerge();";

    private final Answers answers = new Answers();
    private final VersionMerge x = new VersionMerge();
    private final Map<String, Integer> names = new HashMap<>();

    private static List<Method> face() {
        List<Method> found = new ArrayList<>();
        for (Method method : VersionMerge.class.getDeclaredMethods()) {
            if (Modifier.isPublic(method.getModifiers())) {
                found.add(method);
            }
        }
        return found;
    }

    private void table(String readme) {
        for (Method method : face()) {
            boolean told = readme.matches("(?s).*\n\\| [^|\n]*`" + method.getName() + "\\(.*");
            answers.due("the table has " + method.getName(), told ? 1 : 0, 1);
        }
    }

    private void example(String readme) throws IllegalAccessException, InvocationTargetException {
        Matcher block = EXAMPLE.matcher(readme);
        answers.due("README has an example", block.find() ? 1 : 0, 1);
        String[] lines = block.group(1).split("\n");
        answers.due("it begins with a new object", lines[0].startsWith(FIRST_LINE) ? 1 : 0, 1);
        for (int i = 1; i < lines.length; i++) {
            line(lines[i]);
        }
    }

    private void line(String text) throws IllegalAccessException, InvocationTargetException {
        Matcher line = LINE.matcher(text);
        if (!line.matches()) {
            answers.due("a call with its answer in: " + text, 0, 1);
            return;
        }
        int got = value(line.group(2));
        answers.due("README: " + text, got, Integer.parseInt(line.group(3)));
        if (line.group(1) != null) {
            names.put(line.group(1), got);
        }
    }

    /** What a call answers; a call inside it is made first, and its answer put in its place. */
    private int value(String text) throws IllegalAccessException, InvocationTargetException {
        String left = text;
        Matcher call = CALL.matcher(left);
        while (call.find()) {
            int got = called(call.group(1), call.group(2));
            left = left.substring(0, call.start()) + got + left.substring(call.end());
            call = CALL.matcher(left);
        }
        return Integer.parseInt(left);
    }

    private int called(String name, String arguments) throws IllegalAccessException, InvocationTargetException {
        List<Object> values = new ArrayList<>();
        for (String part : arguments.isEmpty() ? new String[0] : arguments.split(", ")) {
            values.add(argument(part));
        }
        for (Method method : face()) {
            if (method.getName().equals(name)) {
                return (Integer) method.invoke(x, values.toArray());
            }
        }
        throw new IllegalStateException("no call " + name);
    }

    private Object argument(String text) {
        if (text.equals("true") || text.equals("false")) {
            return text.equals("true");
        }
        return names.containsKey(text) ? names.get(text) : Integer.valueOf(text);
    }

    public static void main(String[] args)
            throws IOException, IllegalAccessException, InvocationTargetException {
        String readme = Files.readString(README);
        ReadmeTest test = new ReadmeTest();
        test.table(readme);
        test.example(readme);
        test.answers.end("ReadmeTest");
    }
}
