import java.io.IOException;
import java.lang.reflect.InvocationTargetException;
import java.lang.reflect.Method;
import java.nio.file.Files;
import java.nio.file.Path;
import java.util.HashMap;
import java.util.Map;
import java.util.TreeSet;
import java.util.regex.Matcher;
import java.util.regex.Pattern;

/** The examples of README.md: one run of calls, each of which must answer what stands behind it. */
public final class ReadmeTest {
    private static final Checks CHECKS = new Checks();
    private static final Pattern BLOCK = Pattern.compile("```java\n(.*?)```", Pattern.DOTALL);
    private static final Pattern CALL =
        Pattern.compile("(?:int (\\w+) = )?m\\.(\\w+)\\((.*?)\\); +// ([^: ]+)(?:: .+)?");
    private static final String MADE = "FieldMigrator m = new FieldMigrator();";

    private final FieldMigrator tested = new FieldMigrator();
    private final Map<String, String> variables = new HashMap<>();
    private final TreeSet<String> shown = new TreeSet<>();

    private void line(String line) {
        Matcher call = CALL.matcher(line);
        boolean isCall = call.matches();
        CHECKS.same(line + ": is a call with its answer", String.valueOf(isCall || line.equals(MADE)), "true");
        if (!isCall) {
            return;
        }
        String got = answer(call.group(2), call.group(3));
        CHECKS.same(line, got, call.group(4));
        shown.add(call.group(2));
        if (call.group(1) != null) {
            variables.put(call.group(1), got);
        }
    }

    private String answer(String name, String words) {
        String[] arguments = words.isEmpty() ? new String[0] : words.split(", ");
        for (Method method : FieldMigrator.class.getMethods()) {
            if (method.getName().equals(name) && method.getParameterCount() == arguments.length) {
                return answer(method, arguments);
            }
        }
        return "no such call";
    }

    private String answer(Method method, String[] words) {
        Object[] arguments = new Object[words.length];
        for (int i = 0; i < words.length; i++) {
            String word = variables.getOrDefault(words[i], words[i]);
            boolean isYes = word.equals("true") || word.equals("false");
            arguments[i] = isYes ? (Object) Boolean.valueOf(word) : (Object) Integer.valueOf(word);
        }
        try {
            Object got = method.invoke(tested, arguments);
            return got instanceof Character ? "'" + got + "'" : String.valueOf(got);
        } catch (InvocationTargetException e) {
            return e.getCause().getClass().getSimpleName();
        } catch (IllegalAccessException e) {
            return "not public";
        }
    }

    /** Every call of the face stands in a table, and is shown by an example. */
    private void allCalls(String readme) {
        for (Method method : FieldMigrator.class.getDeclaredMethods()) {
            if (java.lang.reflect.Modifier.isPublic(method.getModifiers())) {
                String name = method.getName();
                CHECKS.same(name + " is shown", String.valueOf(shown.contains(name)), "true");
                CHECKS.same(name + " is in a table", String.valueOf(readme.contains("\n| `" + name + "(")), "true");
            }
        }
    }

    public static void main(String[] args) throws IOException {
        String readme = Files.readString(Path.of("README.md"));
        ReadmeTest test = new ReadmeTest();
        Matcher block = BLOCK.matcher(readme);
        while (block.find()) {
            for (String line : block.group(1).split("\n")) {
                test.line(line);
            }
        }
        test.allCalls(readme);
        CHECKS.end();
    }
}
