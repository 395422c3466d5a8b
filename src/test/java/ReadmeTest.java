import java.io.IOException;
import java.lang.reflect.InvocationTargetException;
import java.lang.reflect.Method;
import java.lang.reflect.Modifier;
import java.nio.file.Files;
import java.nio.file.Path;
import java.util.List;
import java.util.Set;
import java.util.TreeSet;
import java.util.regex.Matcher;
import java.util.regex.Pattern;

/** README.md holds: its example answers what it says, and it names every call of the class. */
public final class ReadmeTest {
    private static final String MADE = "PalletStack s = new PalletStack();";
    private static final Pattern CALL = Pattern.compile("s\\.(\\w+)\\(([^)]*)\\); +// ([^:]+)(:.*)?");

    public static void main(String[] args) throws IOException, IllegalAccessException {
        List<String> lines = Files.readAllLines(Path.of("README.md"));
        Set<String> shown = new TreeSet<>();
        PalletStack s = null;
        boolean isExample = false;
        for (String line : lines) {
            if (line.startsWith("```")) {
                isExample = line.equals("```java");
            } else if (isExample && line.equals(MADE)) {
                s = new PalletStack();
            } else if (isExample && !line.isEmpty()) {
                shown.add(answersAsItSays(s, line));
            }
        }
        String text = String.join("\n", lines);
        for (Method method : face()) {
            Checks.yes("the example shows " + method.getName(), shown.contains(method.getName()));
            Checks.yes("there is a row for " + method.getName(), text.contains("| `" + method.getName() + "("));
        }
        Checks.end();
    }

    private static List<Method> face() {
        return List.of(PalletStack.class.getDeclaredMethods()).stream()
                .filter(method -> Modifier.isPublic(method.getModifiers())).toList();
    }

    /** Calls what the line of the example calls, and gives the name of it. */
    private static String answersAsItSays(PalletStack s, String line) throws IllegalAccessException {
        Matcher call = CALL.matcher(line);
        if (!call.matches()) {
            Checks.yes("the example has the form of a call and its answer: " + line, false);
            return "";
        }
        for (Method method : face()) {
            if (method.getName().equals(call.group(1))) {
                String got = answerOf(s, method, call.group(2));
                Checks.yes(line + " answers " + got, got.equals(call.group(3)));
            }
        }
        return call.group(1);
    }

    private static String answerOf(PalletStack s, Method method, String arguments) throws IllegalAccessException {
        String[] texts = arguments.isEmpty() ? new String[0] : arguments.split(", ");
        Object[] values = new Object[texts.length];
        for (int i = 0; i < texts.length; i++) {
            boolean isNumber = method.getParameterTypes()[i] == int.class;
            values[i] = isNumber ? (Object) Integer.valueOf(texts[i]) : (Object) Boolean.valueOf(texts[i]);
        }
        try {
            return String.valueOf(method.invoke(s, values));
        } catch (InvocationTargetException e) {
            return e.getCause().getClass().getSimpleName();
        }
    }
}
