import java.io.IOException;
import java.lang.reflect.Field;
import java.lang.reflect.Modifier;
import java.nio.file.Files;
import java.nio.file.Path;
import java.util.ArrayList;
import java.util.LinkedHashMap;
import java.util.List;
import java.util.Map;
import java.util.Set;
import java.util.TreeSet;
import java.util.regex.Matcher;
import java.util.regex.Pattern;

/**
 * Those rules of LANGUAGE.md that can be seen from the text of the class: words that it may not have,
 * and how long, wide and deep it may be. FaceTest has the rules on what is visible.
 */
public final class LanguageTest {
    private static final Path SOURCE = Path.of("src/main/java/ScrapHouse.java");
    private static final Pattern COMMENT = Pattern.compile("/\\*.*?\\*/|//[^\n]*", Pattern.DOTALL);
    private static final Pattern FORBIDDEN = Pattern.compile(
        "\\b(package|import|throws?|try|catch|synchronized|assert|volatile|transient|native|goto|hashCode|toString"
            + "|equals|Object|Thread|Runtime|float|double)\\b|->|::|\\w+Exact\\b|@\\w+");
    private static final Pattern LIBRARY = Pattern.compile("\\b(Math|System|Arrays|Integer|Long)\\.(\\w+)");
    private static final Set<String> USED = Set.of("Math.min", "Math.max", "System.arraycopy");
    private static final Pattern METHOD =
        Pattern.compile("(?m)^( {4}| {8})(?:[\\w\\[\\]]+ )+(\\w+)\\(([^)]*)\\) \\{\n(.*?)^\\1\\}", Pattern.DOTALL);
    private static final Pattern CALLED = Pattern.compile("(?<!new )\\b(\\w+)\\(");

    private static final int LONGEST_METHOD = 60;
    private static final int MOST_PARAMETERS = 7;
    private static final int MOST_CLASSES = 12;
    private static final int MOST_FIELDS = 20;
    private static final int DEEPEST = 8;

    private final Check check = new Check("LanguageTest");
    private final String text;
    private final Map<String, Set<String>> calls = new LinkedHashMap<>();

    private LanguageTest(String text) {
        this.text = text;
    }

    public static void main(String[] args) throws IOException {
        String source = Files.readString(SOURCE);
        LanguageTest test = new LanguageTest(COMMENT.matcher(source).replaceAll(""));
        test.words();
        test.classes();
        test.methods();
        test.depth();
        test.check.end();
    }

    private void words() {
        Matcher found = FORBIDDEN.matcher(text);
        while (found.find()) {
            check.due("the class has " + found.group(), true, false);
        }
        Matcher library = LIBRARY.matcher(text);
        while (library.find()) {
            check.due(library.group() + " is known to be allowed", USED.contains(library.group()), true);
        }
    }

    private void classes() {
        int classes = 0;
        for (Class<?> inside : ScrapHouse.class.getDeclaredClasses()) {
            classes++;
            check.due("classes inside " + inside.getName(), inside.getDeclaredClasses().length, 0);
            fields(inside);
        }
        fields(ScrapHouse.class);
        check.due("too many classes", classes + 1 > MOST_CLASSES, false);
        check.due("classes at the top of the text", Pattern.compile("(?m)^\\w.*\\{$").matcher(text).results().count(), 1);
    }

    private void fields(Class<?> one) {
        int fields = 0;
        for (Field field : one.getDeclaredFields()) {
            boolean isStatic = Modifier.isStatic(field.getModifiers());
            boolean isFinal = Modifier.isFinal(field.getModifiers());
            fields += isStatic ? 0 : 1;
            check.due("static, not final: " + field, isStatic && !isFinal, false);
        }
        check.due("too many fields in " + one.getName(), fields > MOST_FIELDS, false);
    }

    private void methods() {
        Matcher method = METHOD.matcher(text.substring(text.indexOf('{') + 1));
        List<String> bodies = new ArrayList<>();
        List<String> names = new ArrayList<>();
        while (method.find()) {
            String name = method.group(2);
            int parameters = method.group(3).isEmpty() ? 0 : method.group(3).split(",").length;
            check.due("too many parameters of " + name, parameters > MOST_PARAMETERS, false);
            check.due("too long: " + name, method.group(4).lines().count() > LONGEST_METHOD, false);
            names.add(name);
            bodies.add(method.group(4));
        }
        for (int k = 0; k < names.size(); k++) {
            Set<String> called = calls.computeIfAbsent(names.get(k), name -> new TreeSet<>());
            Matcher call = CALLED.matcher(bodies.get(k));
            while (call.find()) {
                if (names.contains(call.group(1))) {
                    called.add(call.group(1));
                }
            }
        }
    }

    private Set<String> reached(String name) {
        Set<String> seen = new TreeSet<>();
        List<String> open = new ArrayList<>(calls.get(name));
        while (!open.isEmpty()) {
            String next = open.remove(open.size() - 1);
            if (seen.add(next)) {
                open.addAll(calls.get(next));
            }
        }
        return seen;
    }

    /** How many calls stand open below one, those that come back to it not counted. */
    private int depthOf(String name) {
        int deepest = 0;
        Set<String> ring = new TreeSet<>(Set.of(name));
        for (String one : reached(name)) {
            if (reached(one).contains(name)) {
                ring.add(one);
            }
        }
        for (String one : ring) {
            for (String called : calls.get(one)) {
                deepest = Math.max(deepest, ring.contains(called) ? 0 : depthOf(called));
            }
        }
        return deepest + 1;
    }

    private void depth() {
        check.due("methods seen in the text", calls.size() >= 50, true);
        for (String name : calls.keySet()) {
            check.due("too deep: " + name + " with " + depthOf(name), depthOf(name) > DEEPEST, false);
        }
        Set<String> recursive = new TreeSet<>();
        for (String name : calls.keySet()) {
            if (reached(name).contains(name)) {
                recursive.add(name);
            }
        }
        // Each of these carries its depth and refuses what would go deeper.
        check.due("recursive are " + recursive, recursive.equals(Set.of("tests", "part", "unit")), true);
    }
}
