import java.io.IOException;
import java.lang.reflect.InvocationTargetException;
import java.lang.reflect.Method;
import java.lang.reflect.Modifier;
import java.nio.file.Files;
import java.nio.file.Path;
import java.util.List;
import java.util.regex.Matcher;
import java.util.regex.Pattern;
import java.util.stream.Stream;

/** README.md says of each call what it is for, its examples answer as it says, and it names each test. */
public final class ReadmeTest {
    private static final String NEW_OBJECT = "DullEvenings x = new DullEvenings();";
    private static final Pattern TYPED = Pattern.compile("for \\(char c : \"(.*)\"\\.toCharArray\\(\\)\\) x\\.type\\(c\\);");
    private static final Pattern CALL = Pattern.compile("x\\.(\\w+)\\(([^)]*)\\); +// (-?\\d+)(: .*)?");
    private static final Check check = new Check("ReadmeTest");

    private DullEvenings x;
    private boolean inExample;
    private int answers;

    public static void main(String[] args) throws IOException, ReflectiveOperationException {
        List<String> lines = Files.readAllLines(Path.of("README.md"));
        ReadmeTest test = new ReadmeTest();
        for (String line : lines) {
            test.read(line);
        }
        check.due("are there examples", test.answers > 0 ? 1 : 0, 1);
        String text = String.join("\n", lines);
        callsAreNamed(text);
        testsAreNamed(text);
        check.end();
    }

    private void read(String line) throws ReflectiveOperationException {
        if (line.startsWith("```")) {
            inExample = line.equals("```java");
        } else if (inExample && !line.isBlank()) {
            obey(line);
        }
    }

    private void obey(String line) throws ReflectiveOperationException {
        Matcher typed = TYPED.matcher(line);
        Matcher call = CALL.matcher(line);
        if (line.equals(NEW_OBJECT)) {
            x = new DullEvenings();
        } else if (typed.matches()) {
            typed.group(1).chars().forEach(x::type);
        } else if (call.matches()) {
            check.due(line, answer(call.group(1), call.group(2)), Integer.parseInt(call.group(3)));
            answers++;
        } else {
            check.due("can the test read '" + line + "'", 0, 1);
        }
    }

    private int answer(String name, String arguments) throws IllegalAccessException, InvocationTargetException {
        String[] words = arguments.isEmpty() ? new String[0] : arguments.split(", ");
        Method method = methodOf(name);
        Object[] values = new Object[words.length];
        for (int i = 0; i < words.length; i++) {
            boolean isLong = method.getParameterTypes()[i] == long.class;
            values[i] = isLong ? (Object) Long.valueOf(words[i]) : (Object) Integer.valueOf(words[i]);
        }
        return (Integer) method.invoke(x, values);
    }

    private static Method methodOf(String name) {
        for (Method method : DullEvenings.class.getDeclaredMethods()) {
            if (method.getName().equals(name)) {
                return method;
            }
        }
        throw new AssertionError("README.md has an example of " + name + ", which is no call");
    }

    private static void callsAreNamed(String text) {
        for (Method method : DullEvenings.class.getDeclaredMethods()) {
            if (Modifier.isPublic(method.getModifiers())) {
                String row = "| `" + method.getName() + "(";
                check.due("has it a row " + row, text.contains(row) ? 1 : 0, 1);
            }
        }
    }

    private static void testsAreNamed(String text) throws IOException {
        try (Stream<Path> files = Files.list(Path.of("src/test/java"))) {
            for (Path file : files.toList()) {
                String name = file.getFileName().toString().replace(".java", "");
                if (name.endsWith("Test")) {
                    check.due("is " + name + " named", text.contains("| `" + name + "` |") ? 1 : 0, 1);
                }
            }
        }
    }
}
