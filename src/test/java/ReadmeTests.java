import java.io.IOException;
import java.lang.reflect.Method;
import java.nio.file.Files;
import java.nio.file.Path;
import java.util.Map;
import java.util.Set;
import java.util.TreeSet;
import java.util.regex.Matcher;
import java.util.regex.Pattern;

/** The example of README.md, line by line: each call is made, and must answer what stands behind it. */
public final class ReadmeTests {
    private static final Pattern CALL = Pattern.compile("chain\\.(\\w+)\\((.*)\\); +// ([-.\\w]+)(:.*)?");
    private static final Map<String, String> CODES = Map.of("" + MagnetChain.BAD, "BAD",
            "" + MagnetChain.STATE, "STATE", "" + MagnetChain.FULL, "FULL", "" + MagnetChain.NONE, "NONE");

    private static final Due due = new Due();

    public static void main(String[] args) throws IOException, ReflectiveOperationException {
        String text = Files.readString(Path.of("README.md"));
        int calls = 0;
        MagnetChain chain = new MagnetChain();
        for (String line : text.split("\n")) {
            Matcher call = CALL.matcher(line);
            if (call.matches()) {
                calls++;
                due.is(line, answer(chain, call.group(1), call.group(2)), call.group(3));
            } else {
                due.holds("a call that is understood: " + line, !line.startsWith("chain."));
            }
        }
        due.holds("calls in README.md", calls > 0);
        everyMethodIsNamed(text);
        due.end("ReadmeTests");
    }

    private static String answer(MagnetChain chain, String name, String arguments) throws ReflectiveOperationException {
        String[] told = arguments.isEmpty() ? new String[0] : arguments.split(", ");
        Class<?>[] types = new Class<?>[told.length];
        Object[] values = new Object[told.length];
        for (int i = 0; i < told.length; i++) {
            types[i] = int.class;
            values[i] = told[i].startsWith("'") ? (int) told[i].charAt(1) : Integer.parseInt(told[i]);
        }
        String answer = "" + MagnetChain.class.getMethod(name, types).invoke(chain, values);
        return CODES.getOrDefault(answer, answer);
    }

    private static void everyMethodIsNamed(String text) {
        Set<String> missing = new TreeSet<>();
        for (Method method : MagnetChain.class.getMethods()) {
            if (method.getDeclaringClass() == MagnetChain.class && !text.contains("`" + method.getName() + "`")) {
                missing.add(method.getName());
            }
        }
        due.holds("README.md names " + missing, missing.isEmpty());
    }
}
