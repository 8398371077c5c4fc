import java.io.IOException;
import java.lang.reflect.Method;
import java.lang.reflect.Modifier;
import java.nio.file.Files;
import java.nio.file.Path;
import java.util.List;
import java.util.regex.Matcher;
import java.util.regex.Pattern;

/** What README.md shows is what the class answers, and it names each call. */
public final class ReadmeTest {
    private static final Path PAGE = Path.of("README.md");
    private static final String MADE = "ConkerBouts x = new ConkerBouts();";
    private static final Pattern CALL = Pattern.compile("x\\.(\\w+)\\(([-\\d, ]*)\\); *// (-?\\d+)(:.*)?");
    private static final Pattern TYPED = Pattern.compile("for \\(char c : \"([^\"]*)\"\\.toCharArray\\(\\)\\) x\\.type\\(c\\);");

    private static ConkerBouts x;

    private static Method methodOf(String name) {
        for (Method method : ConkerBouts.class.getDeclaredMethods()) {
            if (Modifier.isPublic(method.getModifiers()) && method.getName().equals(name)) return method;
        }
        return null;
    }

    private static Object[] numbersOf(String list) {
        if (list.isBlank()) return new Object[0];
        String[] words = list.split(",");
        Object[] numbers = new Object[words.length];
        for (int k = 0; k < words.length; k++) numbers[k] = Integer.parseInt(words[k].trim());
        return numbers;
    }

    private static void call(Matcher row) throws ReflectiveOperationException {
        Method method = methodOf(row.group(1));
        Object[] numbers = numbersOf(row.group(2));
        if (method == null || method.getParameterCount() != numbers.length) {
            Due.fault("no such call: " + row.group());
            return;
        }
        Due.due(row.group(), ((Number) method.invoke(x, numbers)).longValue(), Long.parseLong(row.group(3)));
    }

    private static void runRow(String row) throws ReflectiveOperationException {
        Matcher called = CALL.matcher(row), typed = TYPED.matcher(row);
        if (row.equals(MADE)) x = new ConkerBouts();
        else if (called.matches()) call(called);
        else if (typed.matches()) typed.group(1).chars().forEach(c -> x.type(c));
        else if (!row.isBlank()) Due.fault("a row that is not understood: " + row);
    }

    private static void runShown(List<String> page) throws ReflectiveOperationException {
        boolean shown = false;
        for (String row : page) {
            if (row.startsWith("```")) shown = row.equals("```java");
            else if (shown) runRow(row);
        }
    }

    private static void lookForCalls(String page) {
        for (Method method : ConkerBouts.class.getDeclaredMethods()) {
            boolean named = page.contains("`" + method.getName() + "(");
            if (Modifier.isPublic(method.getModifiers()) && !named) Due.fault("not told: " + method.getName());
        }
    }

    public static void main(String[] args) throws IOException, ReflectiveOperationException {
        runShown(Files.readAllLines(PAGE));
        lookForCalls(Files.readString(PAGE));
        Due.end();
    }
}
