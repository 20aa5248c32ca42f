import java.io.IOException;
import java.lang.reflect.InvocationTargetException;
import java.lang.reflect.Method;
import java.lang.reflect.Modifier;
import java.nio.file.Files;
import java.nio.file.Path;
import java.util.HashMap;
import java.util.List;
import java.util.Map;
import java.util.regex.Matcher;
import java.util.regex.Pattern;

/**
 * README.md is true: the calls of its examples, made in their order on one house, answer what stands
 * behind them, and its table has every call. It is read from where .ci/run runs, the project's root.
 */
public final class ReadmeTest {
    private static final Pattern CALL =
        Pattern.compile("(?:int (\\w+) = )?house\\.(\\w+)\\((.*?)\\); *(?:// (-?\\d+|true)\\b)?.*");

    private final Check check = new Check("ReadmeTest");
    private final ScrapHouse house = new ScrapHouse();
    private final Map<String, Object> named = new HashMap<>();
    private int compared;

    public static void main(String[] args) throws IOException, ReflectiveOperationException {
        ReadmeTest test = new ReadmeTest();
        List<String> lines = Files.readAllLines(Path.of("README.md"));
        test.examples(lines);
        test.table(lines);
        test.check.end();
    }

    private void examples(List<String> lines) throws ReflectiveOperationException {
        named.put("ScrapHouse.NONE", ScrapHouse.NONE);
        named.put("true", true);
        boolean java = false;
        for (String line : lines) {
            java = line.startsWith("```") ? line.equals("```java") : java;
            Matcher call = CALL.matcher(line);
            if (java && call.matches()) {
                ask(line, call);
            }
        }
        check.due("answers in the examples", compared >= 10, true);
    }

    private void ask(String line, Matcher call) throws IllegalAccessException, InvocationTargetException {
        Object answer = null;
        for (Method method : ScrapHouse.class.getMethods()) {
            if (method.getName().equals(call.group(2))) {
                answer = method.invoke(house, arguments(call.group(3)));
            }
        }
        check.due("a call that is there: " + line, answer != null, true);
        if (call.group(1) != null) {
            named.put(call.group(1), answer);
        }
        if (call.group(4) != null) {
            compared++;
            check.due(line + " is " + answer, call.group(4).equals(String.valueOf(answer)), true);
        } else {
            check.due(line + " is refused", Boolean.FALSE.equals(answer) || Integer.valueOf(-1).equals(answer), false);
        }
    }

    private Object[] arguments(String text) {
        String[] words = text.isEmpty() ? new String[0] : text.split(", ");
        Object[] values = new Object[words.length];
        for (int k = 0; k < words.length; k++) {
            values[k] = named.containsKey(words[k]) ? named.get(words[k]) : number(words[k]);
        }
        return values;
    }

    private static Object number(String word) {
        if (word.endsWith("L")) {
            return Long.decode(word.substring(0, word.length() - 1));
        }
        return Integer.decode(word);
    }

    private void table(List<String> lines) {
        for (Method method : ScrapHouse.class.getDeclaredMethods()) {
            if (Modifier.isPublic(method.getModifiers())) {
                long rows = lines.stream().filter(line -> line.startsWith("| `" + method.getName() + "(")).count();
                check.due("rows of " + method.getName(), rows, 1);
            }
        }
    }
}
