import java.lang.reflect.Method;
import java.nio.file.Files;
import java.nio.file.Path;
import java.util.Arrays;
import java.util.regex.Matcher;
import java.util.regex.Pattern;

/** The example of README.md: each call is done in its order, and its comment begins with the answer. */
public final class ReadmeTest {
    private static final Checks C = new Checks();
    private static final Pattern EXAMPLE = Pattern.compile("(?s)```java\n(.*?)```");
    private static final Pattern CALL = Pattern.compile("x\\.(\\w+)\\(([^)]*)\\); *// (-?\\d+|true|false)\\b.*");

    public static void main(String[] args) throws Exception {
        String readme = Files.readString(Path.of("README.md"));
        Matcher example = EXAMPLE.matcher(readme);
        C.is("README.md has an example", example.find(), true);
        WindowRoll x = new WindowRoll();
        for (String line : example.group(1).split("\n")) {
            if (line.startsWith("x.")) {
                call(x, line);
            } else {
                C.is("no call: " + line, line.isEmpty() || line.startsWith("// ")
                    || line.equals("WindowRoll x = new WindowRoll();"), true);
            }
        }
        C.is("README.md tells the command", readme.contains("```sh\n.ci/run\n```"), true);
        C.is("it can be run", Files.isExecutable(Path.of(".ci/run")), true);
        C.finish();
    }

    private static void call(WindowRoll x, String line) throws Exception {
        Matcher m = CALL.matcher(line);
        C.is("a call with its answer: " + line, m.matches(), true);
        String[] told = m.group(2).isEmpty() ? new String[0] : m.group(2).split(", ");
        Method method = Arrays.stream(WindowRoll.class.getMethods())
            .filter(f -> f.getName().equals(m.group(1))).findFirst().get();
        Object[] a = new Object[told.length];
        for (int k = 0; k < a.length; k++) {
            boolean is64 = method.getParameterTypes()[k] == long.class;
            a[k] = is64 ? (Object) Long.decode(told[k]) : (Object) Integer.decode(told[k]);
        }
        String got = String.valueOf(method.invoke(x, a));
        C.is(line + " (answered " + got + ")", got.equals(m.group(3)), true);
    }
}
