import java.io.IOException;
import java.lang.reflect.InvocationTargetException;
import java.lang.reflect.Method;
import java.lang.reflect.Modifier;
import java.nio.file.DirectoryStream;
import java.nio.file.Files;
import java.nio.file.Path;
import java.util.HashMap;
import java.util.Map;
import java.util.regex.Matcher;
import java.util.regex.Pattern;

/** Runs the examples of README.md, whose comments begin with the answers, and looks for every name. */
public final class ReadmeTest {
    private static final Pattern MADE = Pattern.compile("FractionRows x = new FractionRows\\((-?\\d+)\\);");
    private static final Pattern CALL = Pattern.compile(
        "(?:int (\\w+) = )?x\\.(\\w+)\\(([^)]*)\\);\\s*// (-?\\d+|throws \\w+)(?:: .*)?");

    private static final Map<String, String> NAMED = new HashMap<>();
    private static FractionRows x;
    private static int calls;
    private static int wrong;

    public static void main(String[] args) throws IOException, IllegalAccessException {
        String readme = Files.readString(Path.of("README.md"));
        boolean isExample = false;
        for (String line : readme.split("\n")) {
            if (line.startsWith("```")) {
                isExample = line.equals("```java");
            } else if (isExample) {
                run(line);
            }
        }
        check(calls > 0, "README.md has no examples");
        names(readme);
        System.out.println(calls + " calls of README.md, " + wrong + " wrong");
        if (wrong != 0) {
            System.exit(1);
        }
    }

    private static void check(boolean holds, String otherwise) {
        if (!holds) {
            wrong++;
            System.out.println(otherwise);
        }
    }

    private static void run(String line) throws IllegalAccessException {
        Matcher made = MADE.matcher(line);
        Matcher call = CALL.matcher(line);
        if (made.matches()) {
            x = new FractionRows(Integer.parseInt(made.group(1)));
            NAMED.clear();
        } else if (call.matches() && x != null) {
            calls++;
            String got = answer(call.group(2), call.group(3));
            NAMED.put(call.group(1), got);
            check(got.equals(call.group(4)), line + " is wrong, the answer is " + got);
        } else {
            check(false, line + " is no line of an example");
        }
    }

    private static String answer(String name, String written) throws IllegalAccessException {
        String[] values = written.isEmpty() ? new String[0] : written.split(", ");
        for (Method method : FractionRows.class.getDeclaredMethods()) {
            if (method.getName().equals(name) && method.getParameterCount() == values.length) {
                try {
                    return String.valueOf(method.invoke(x, arguments(method, values)));
                } catch (InvocationTargetException e) {
                    return "throws " + e.getCause().getClass().getSimpleName();
                }
            }
        }
        return "no such call";
    }

    private static Object[] arguments(Method method, String[] values) {
        Object[] arguments = new Object[values.length];
        for (int i = 0; i < values.length; i++) {
            String value = NAMED.getOrDefault(values[i], values[i]);
            Class<?> type = method.getParameterTypes()[i];
            if (type == boolean.class) {
                arguments[i] = Boolean.valueOf(value);
            } else if (type == long.class) {
                arguments[i] = Long.valueOf(value);
            } else {
                arguments[i] = Integer.valueOf(value);
            }
        }
        return arguments;
    }

    private static void names(String readme) throws IOException {
        for (Method method : FractionRows.class.getDeclaredMethods()) {
            if (Modifier.isPublic(method.getModifiers())) {
                check(readme.contains("`" + method.getName() + "`"), "README.md does not name " + method.getName());
            }
        }
        try (DirectoryStream<Path> tests = Files.newDirectoryStream(Path.of("src/test/java"), "*Test.java")) {
            for (Path test : tests) {
                String name = test.getFileName().toString().replace(".java", "");
                check(readme.contains("`" + name + "`"), "README.md does not name " + name);
            }
        }
    }
}
