import java.io.IOException;
import java.lang.reflect.InvocationTargetException;
import java.lang.reflect.Method;
import java.nio.file.Files;
import java.nio.file.Path;
import java.util.regex.Matcher;
import java.util.regex.Pattern;

/** The calls of README.md's example answer what stands behind them. */
public final class ReadmeTest {
    private static final Checks CHECKS = new Checks();
    private static final Pattern CALL = Pattern.compile("net\\.(\\w+)\\((.*)\\);\\s+// ([^:]+): .+");
    private static final int FEWEST_CALLS = 10;

    public static void main(String[] args) throws IOException, IllegalAccessException {
        NetWires net = new NetWires();
        int calls = 0;
        for (String line : Files.readAllLines(Path.of("README.md"))) {
            if (!line.startsWith("net.")) {
                continue;
            }
            calls++;
            Matcher call = CALL.matcher(line);
            if (call.matches()) {
                CHECKS.sameText(line, answerOf(net, call.group(1), call.group(2)), call.group(3));
            } else {
                CHECKS.holds("a call with its answer behind it: " + line, false);
            }
        }
        CHECKS.holds("the example has at least " + FEWEST_CALLS + " calls", calls >= FEWEST_CALLS);
        CHECKS.end();
    }

    private static String answerOf(NetWires net, String name, String arguments) throws IllegalAccessException {
        String[] texts = arguments.isEmpty() ? new String[0] : arguments.split(", ");
        for (Method method : NetWires.class.getMethods()) {
            Class<?>[] types = method.getParameterTypes();
            if (method.getName().equals(name) && types.length == texts.length) {
                try {
                    return String.valueOf(method.invoke(net, valuesOf(texts, types)));
                } catch (InvocationTargetException e) {
                    return "an exception: " + e.getCause();
                }
            }
        }
        return "no such call";
    }

    private static Object[] valuesOf(String[] texts, Class<?>[] types) {
        Object[] values = new Object[texts.length];
        for (int i = 0; i < texts.length; i++) {
            String digits = texts[i].replace("L", "");
            if (types[i] == long.class) {
                values[i] = Long.decode(digits);
            } else {
                values[i] = Integer.decode(digits);
            }
        }
        return values;
    }
}
