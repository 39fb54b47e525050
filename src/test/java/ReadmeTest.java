import java.io.IOException;
import java.lang.reflect.InvocationTargetException;
import java.lang.reflect.Method;
import java.nio.file.DirectoryStream;
import java.nio.file.Files;
import java.nio.file.Path;
import java.util.TreeSet;
import java.util.regex.Matcher;
import java.util.regex.Pattern;

/** What README.md shows: each call is made, and must answer what the comment behind it says. */
final class ReadmeTest {
    private static final String NEW_OBJECT = "RekeyPeers x = new RekeyPeers();";
    private static final Pattern SHOWN = Pattern.compile("x\\.(\\w+)\\((.*)\\);(?:\\s*// (.*))?");
    private static final Pattern ANSWER = Pattern.compile("(throws \\w+|-?\\d+)\\b.*");

    public static void main(String[] args) throws IOException, ReflectiveOperationException {
        String readme = Files.readString(Path.of("README.md"));
        everyAnswerIsSo(readme);
        everyCallIsShown(readme);
        everyTestIsNamed(readme);
        Expect.end();
    }

    private static void everyAnswerIsSo(String readme) throws ReflectiveOperationException {
        RekeyPeers x = null;
        boolean inside = false;
        for (String line : readme.split("\n")) {
            if (line.startsWith("```")) {
                inside = line.equals("```java");
                x = null;
            } else if (inside && line.equals(NEW_OBJECT)) {
                x = new RekeyPeers();
            } else if (inside) {
                isSo(x, line);
            }
        }
    }

    private static void isSo(RekeyPeers x, String line) throws ReflectiveOperationException {
        Matcher shown = SHOWN.matcher(line);
        if (x == null || !shown.matches()) {
            Expect.holds("'" + line + "' is a call of an object x", false);
            return;
        }
        Method method = methodOf(shown.group(1));
        String due = shown.group(3) == null ? "" : shown.group(3);
        Matcher answer = ANSWER.matcher(due);
        boolean shows = answer.matches();
        String got = call(method, x, numbers(shown.group(2)));
        Expect.sameText(line, got, shows ? answer.group(1) : "nothing");
    }

    private static String call(Method method, RekeyPeers x, Object[] numbers) throws IllegalAccessException {
        try {
            Object answer = method.invoke(x, numbers);
            return answer == null ? "nothing" : answer.toString();
        } catch (InvocationTargetException thrown) {
            return "throws " + thrown.getCause().getClass().getSimpleName();
        }
    }

    private static Method methodOf(String name) throws NoSuchMethodException {
        for (Method each : RekeyPeers.class.getMethods()) {
            if (each.getName().equals(name)) {
                return each;
            }
        }
        throw new NoSuchMethodException(name);
    }

    private static Object[] numbers(String list) throws ReflectiveOperationException {
        String[] parts = list.isEmpty() ? new String[0] : list.split(", ");
        Object[] numbers = new Object[parts.length];
        for (int i = 0; i < parts.length; i++) {
            boolean named = parts[i].startsWith("RekeyPeers.");
            numbers[i] = named ? RekeyPeers.class.getField(parts[i].substring(11)).getInt(null)
                    : Integer.parseInt(parts[i]);
        }
        return numbers;
    }

    private static void everyCallIsShown(String readme) {
        for (Method each : RekeyPeers.class.getMethods()) {
            if (each.getDeclaringClass() == RekeyPeers.class) {
                Expect.holds(each.getName() + " is shown in use", readme.contains("\nx." + each.getName() + "("));
                Expect.holds(each.getName() + " is in the table", readme.contains("| `" + each.getName() + "("));
            }
        }
    }

    private static void everyTestIsNamed(String readme) throws IOException {
        TreeSet<String> tests = new TreeSet<>();
        try (DirectoryStream<Path> files = Files.newDirectoryStream(Path.of("src/test/java"), "*Test.java")) {
            for (Path file : files) {
                tests.add(file.getFileName().toString().replace(".java", ""));
            }
        }
        Expect.holds("there are tests", !tests.isEmpty());
        for (String test : tests) {
            Expect.holds(test + " is named", readme.contains("`" + test + "`"));
        }
    }
}
