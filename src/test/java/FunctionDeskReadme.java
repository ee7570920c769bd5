import java.io.IOException;
import java.lang.reflect.InvocationTargetException;
import java.lang.reflect.Method;
import java.lang.reflect.Modifier;
import java.nio.file.DirectoryStream;
import java.nio.file.Files;
import java.nio.file.Path;
import java.util.Set;
import java.util.TreeSet;
import java.util.regex.Matcher;
import java.util.regex.Pattern;

/** README.md, in the folder that the test runs in, says how things stand. */
public final class FunctionDeskReadme {
    private static final Pattern EXAMPLE_CALL = Pattern.compile("desk\\.(\\w+)\\((.*)\\); +// (.*)");

    public static void main(String[] args) throws IOException, IllegalAccessException {
        String readme = Files.readString(Path.of("README.md"));
        everyCallIsNamed(readme);
        everyTestIsNamed(readme);
        theExampleAnswersAsWritten(readme);
        Checks.end();
    }

    private static void everyCallIsNamed(String readme) {
        for (Method method : FunctionDesk.class.getDeclaredMethods()) {
            if (Modifier.isPublic(method.getModifiers())) {
                Checks.due("README.md tells of " + method.getName(),
                        readme.contains("| `" + method.getName() + "("), true);
            }
        }
    }

    private static void everyTestIsNamed(String readme) throws IOException {
        for (String folder : new String[] {"src/test/java/", "src/test/support/"}) {
            try (DirectoryStream<Path> files = Files.newDirectoryStream(Path.of(folder), "*.java")) {
                for (Path file : files) {
                    String name = file.getFileName().toString();
                    String bare = name.substring(0, name.length() - ".java".length());
                    Checks.due("README.md tells of " + file, readme.contains("`" + folder + name + "`")
                            || readme.contains("`" + bare + "`"), true);
                }
            }
        }
    }

    private static void theExampleAnswersAsWritten(String readme) throws IllegalAccessException {
        FunctionDesk desk = new FunctionDesk();
        Set<String> shown = new TreeSet<>();
        Matcher call = EXAMPLE_CALL.matcher(readme);
        while (call.find()) {
            shown.add(call.group(1));
            String got = answer(desk, call.group(1), call.group(2).split(", "));
            boolean answers = call.group(3).matches("(answers|throws) .*");
            Checks.due(call.group(), got, answers ? call.group(3) : "answers null");
        }
        Checks.due("calls that the example shows", shown.size(), Kind.values().length);
    }

    /** What the call does, in the words of the example; a call that makes answers null. */
    private static String answer(FunctionDesk desk, String name, String[] numbers)
            throws IllegalAccessException {
        for (Method method : FunctionDesk.class.getMethods()) {
            if (method.getName().equals(name)) {
                try {
                    return "answers " + method.invoke(desk, values(method, numbers));
                } catch (InvocationTargetException e) {
                    return "throws " + e.getCause().getClass().getSimpleName();
                }
            }
        }
        return "there is no such call";
    }

    private static Object[] values(Method method, String[] numbers) {
        Object[] values = new Object[numbers.length];
        for (int i = 0; i < numbers.length; i++) {
            boolean isTruth = method.getParameterTypes()[i] == boolean.class;
            values[i] = isTruth ? (Object) Boolean.valueOf(numbers[i]) : Integer.valueOf(numbers[i]);
        }
        return values;
    }
}
