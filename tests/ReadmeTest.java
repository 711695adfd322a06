import java.io.File;
import java.io.IOException;
import java.lang.reflect.InvocationTargetException;
import java.lang.reflect.Method;
import java.nio.file.Files;
import java.nio.file.Path;
import java.util.Set;
import java.util.TreeSet;
import java.util.regex.Matcher;
import java.util.regex.Pattern;

/** Whether README.md is true: the calls of its example are made, and it names the tests that there are. */
public final class ReadmeTest {
    private static final Path README = Path.of("README.md");
    private static final Pattern CALL =
            Pattern.compile("x\\.([a-zA-Z]+)\\((.*?)\\); *// (throws [A-Za-z]+|[-.0-9a-z]+)(, .*)?");
    private static final Pattern BYTES = Pattern.compile(".*\"(.*)\"");
    private static final String MADE = "GroupAutomaton x = new GroupAutomaton();";

    private ReadmeTest() {
    }

    public static void main(String[] args) throws IOException {
        String text = Files.readString(README);
        example(text);
        tests(text);
        Checks.end();
    }

    // ---- the example

    private static void example(String text) {
        int begin = text.indexOf("```java\n") + 8;
        String[] lines = text.substring(begin, text.indexOf("```", begin)).split("\n");
        Checks.same("the first line of the example", lines[0], MADE);
        GroupAutomaton x = new GroupAutomaton();
        for (int k = 1; k < lines.length; k++) {
            Matcher call = CALL.matcher(lines[k]);
            Checks.due(lines[k] + " is a call with its answer", call.matches(), true);
            if (call.matches()) {
                Checks.same(lines[k], answer(x, call.group(1), call.group(2)), call.group(3));
                bytes(lines[k], call.group(1), call.group(2));
            }
        }
    }

    private static String answer(GroupAutomaton x, String name, String list) {
        try {
            Method method = method(name);
            return String.valueOf(method.invoke(x, values(list, method.getParameterTypes())));
        } catch (InvocationTargetException e) {
            return "throws " + e.getCause().getClass().getSimpleName();
        } catch (ReflectiveOperationException | IllegalArgumentException e) {
            return "no such call: " + e;
        }
    }

    private static Method method(String name) throws NoSuchMethodException {
        for (Method method : GroupAutomaton.class.getMethods()) {
            if (method.getName().equals(name) && method.getDeclaringClass() == GroupAutomaton.class) {
                return method;
            }
        }
        throw new NoSuchMethodException(name);
    }

    private static Object[] values(String list, Class<?>[] types) {
        String[] words = list.isEmpty() ? new String[0] : list.split(", ");
        if (words.length != types.length) {
            throw new IllegalArgumentException(list);
        }
        Object[] values = new Object[words.length];
        for (int k = 0; k < words.length; k++) {
            if (types[k] == boolean.class) {
                values[k] = Boolean.valueOf(words[k]);
            } else {
                values[k] = Integer.decode(words[k]);
            }
        }
        return values;
    }

    /** What is said of the bytes that are appended. */
    private static void bytes(String line, String name, String list) {
        if (!name.equals("append")) {
            return;
        }
        StringBuilder bytes = new StringBuilder();
        for (String four : list.split(", ")) {
            for (int shift = 24; shift >= 0; shift -= 8) {
                bytes.append((char) (Integer.decode(four) >> shift & 255));
            }
        }
        Matcher said = BYTES.matcher(line);
        Checks.same(line, bytes.toString(), said.matches() ? said.group(1) : "not said");
    }

    // ---- the tests

    private static void tests(String text) {
        Set<String> named = new TreeSet<>();
        Matcher name = Pattern.compile("`([A-Z][A-Za-z]*Test)`").matcher(text);
        while (name.find()) {
            named.add(name.group(1));
        }
        Set<String> there = new TreeSet<>();
        String[] files = new File("tests").list();
        for (String file : files == null ? new String[0] : files) {
            if (file.endsWith("Test.java")) {
                there.add(file.substring(0, file.length() - 5));
            }
        }
        Checks.same("the tests that README.md names", named.toString(), there.toString());
        Checks.due("README.md names .ci/run", text.contains("\n.ci/run\n"), true);
        Checks.due(".ci/run is there and runs", new File(".ci/run").canExecute(), true);
    }
}
