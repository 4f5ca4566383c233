import java.io.IOException;
import java.lang.reflect.InvocationTargetException;
import java.nio.file.Files;
import java.nio.file.Path;
import java.util.List;
import java.util.regex.Matcher;
import java.util.regex.Pattern;

/** Makes the calls of README.md's examples, and looks whether they answer what stands there behind them. */
public final class ReadmeTest {

    private static final Check check = new Check("readme");
    private static final String NEW = "Ringtrack bench = new Ringtrack();";
    private static final Pattern CALL = Pattern.compile("bench\\.(\\w+)\\((.*)\\); +// ([^:]+)(?:: .*)?");

    public static void main(String[] args) throws IOException {
        List<String> lines = Files.readAllLines(Path.of(args[3]));
        check.same("it names the command", String.join("\n", lines).contains("`bash .ci/run`"), true);
        int examples = 0;
        boolean isCode = false;
        Ringtrack bench = new Ringtrack();
        for (String line : lines) {
            if (line.startsWith("```")) {
                isCode = line.equals("```java");
                examples += isCode ? 1 : 0;
            } else if (isCode && line.equals(NEW)) {
                bench = new Ringtrack();
            } else if (isCode) {
                compare(bench, line);
            }
        }
        check.same("it has examples", examples > 0, true);
        check.end();
    }

    private static void compare(Ringtrack bench, String line) {
        Matcher call = CALL.matcher(line);
        boolean isCall = call.matches();
        check.same("a call and its answer: " + line, isCall, true);
        if (isCall) {
            check.same(line, answered(bench, call.group(1), call.group(2)), call.group(3));
        }
    }

    private static String answered(Ringtrack bench, String name, String arguments) {
        String[] texts = arguments.isEmpty() ? new String[0] : arguments.split(", ");
        Class<?>[] types = new Class<?>[texts.length];
        Object[] values = new Object[texts.length];
        for (int k = 0; k < texts.length; k++) {
            boolean isTruth = texts[k].equals("true") || texts[k].equals("false");
            types[k] = isTruth ? boolean.class : int.class;
            values[k] = isTruth ? (Object) Boolean.valueOf(texts[k]) : (Object) Integer.valueOf(texts[k]);
        }
        try {
            return String.valueOf(Ringtrack.class.getMethod(name, types).invoke(bench, values));
        } catch (InvocationTargetException e) {
            return "throws " + e.getCause().getClass().getSimpleName();
        } catch (ReflectiveOperationException e) {
            return "no such call";
        }
    }
}
