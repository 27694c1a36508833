import java.io.IOException;
import java.lang.reflect.InvocationTargetException;
import java.lang.reflect.Method;
import java.lang.reflect.Modifier;
import java.nio.file.Files;
import java.nio.file.Path;
import java.util.List;
import java.util.regex.Matcher;
import java.util.regex.Pattern;

/**
 * README.md says how to use the class: it names every call, and its examples give what they say. An example's lines are
 * read and asked as they stand there; what is due stands behind them as "// = answer" or "// throws Exception".
 */
public final class ReadmeTest {
    private static final Pattern NEW = Pattern.compile("DiskArmSimulator disk = new DiskArmSimulator\\(\\);");
    private static final Pattern TYPE =
        Pattern.compile("for \\(char c : \"([^\"]*)\"\\.toCharArray\\(\\)\\) disk\\.appendCharacter\\(c\\);");
    private static final Pattern CALL = Pattern.compile("disk\\.(\\w+)\\(([^)]*)\\);(?: *// (.*))?");
    private static final Pattern ANSWER = Pattern.compile("= (\\S+?)[,:]?(?: .*)?");
    private static final Pattern EXCEPTION = Pattern.compile("throws (\\w+)[,:]?(?: .*)?");
    private static final Check check = new Check();

    private static DiskArmSimulator disk = new DiskArmSimulator();

    public static void main(String[] args) throws IOException, IllegalAccessException {
        List<String> lines = Files.readAllLines(Path.of("README.md"));
        namesEveryCall(String.join("\n", lines));
        int read = examples(lines);
        check.due(0, "README.md has examples", read > 0, true);
        check.end();
    }

    private static void namesEveryCall(String readme) {
        for (Method method : DiskArmSimulator.class.getDeclaredMethods()) {
            if (Modifier.isPublic(method.getModifiers())) {
                check.due(0, "README.md names " + method.getName(), readme.contains("`" + method.getName() + "("), true);
            }
        }
    }

    private static int examples(List<String> lines) throws IllegalAccessException {
        boolean inExample = false;
        int read = 0;
        for (String line : lines) {
            if (line.startsWith("```")) {
                inExample = line.equals("```java");
            } else if (inExample && !line.isBlank()) {
                example(line.strip());
                read++;
            }
        }
        return read;
    }

    private static void example(String line) throws IllegalAccessException {
        Matcher typed = TYPE.matcher(line);
        Matcher call = CALL.matcher(line);
        if (NEW.matcher(line).matches()) {
            disk = new DiskArmSimulator();
        } else if (typed.matches()) {
            Check.type(disk, typed.group(1));
        } else if (call.matches()) {
            String due = call.group(3) == null ? "nothing" : dueOf(call.group(3));
            check.due(0, "README.md: " + line, ask(call.group(1), call.group(2)), due);
        } else {
            check.due(0, "README.md: " + line, "can't be read as an example", "an example");
        }
    }

    private static String dueOf(String comment) {
        Matcher answer = ANSWER.matcher(comment);
        if (answer.matches()) {
            return answer.group(1);
        }
        Matcher exception = EXCEPTION.matcher(comment);
        return exception.matches() ? "throws " + exception.group(1) : "nothing";
    }

    private static String ask(String name, String arguments) throws IllegalAccessException {
        Method method = methodOf(name);
        if (method == null) {
            return "no such call";
        }
        try {
            Object answer = method.invoke(disk, valuesOf(arguments));
            return method.getReturnType() == void.class ? "nothing" : String.valueOf(answer);
        } catch (InvocationTargetException e) {
            return "throws " + e.getCause().getClass().getSimpleName();
        }
    }

    private static Method methodOf(String name) {
        for (Method method : DiskArmSimulator.class.getDeclaredMethods()) {
            if (method.getName().equals(name) && Modifier.isPublic(method.getModifiers())) {
                return method;
            }
        }
        return null;
    }

    private static Object[] valuesOf(String arguments) {
        if (arguments.isBlank()) {
            return new Object[0];
        }
        String[] words = arguments.split(", ");
        Object[] values = new Object[words.length];
        for (int i = 0; i < words.length; i++) {
            boolean isBoolean = words[i].equals("true") || words[i].equals("false");
            values[i] = isBoolean ? (Object) Boolean.valueOf(words[i]) : (Object) Integer.valueOf(words[i]);
        }
        return values;
    }
}
