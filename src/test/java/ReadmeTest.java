import java.io.IOException;
import java.lang.reflect.Method;
import java.nio.file.Files;
import java.nio.file.Path;
import java.util.Arrays;
import java.util.Set;
import java.util.TreeSet;
import java.util.regex.Matcher;
import java.util.regex.Pattern;

/** README.md's example, line by line: each call answers what stands behind it there. */
public final class ReadmeTest {
    private static final Due DUE = new Due("ReadmeTest");
    private static final Pattern TEXT = Pattern.compile("tape\\(city, \"([^\"]*)\"\\);");
    private static final Pattern CALL = Pattern.compile("city\\.(\\w+)\\((.*?)\\);\\s+// (-?\\d+|true|false)\\b.*");

    private final AirZone city = new AirZone();
    private final Set<String> shown = new TreeSet<>();

    public static void main(String[] args) throws IOException, ReflectiveOperationException {
        new ReadmeTest().follow(Files.readString(Path.of("README.md")));
        DUE.end();
    }

    private void follow(String readme) throws ReflectiveOperationException {
        for (String line : readme.split("\n")) {
            Matcher text = TEXT.matcher(line);
            Matcher call = CALL.matcher(line);
            if (text.matches()) {
                Due.tape(city, text.group(1));
            } else if (call.matches()) {
                DUE.is(line, answer(call.group(1), call.group(2)), number(call.group(3)));
                shown.add(call.group(1));
            } else {
                DUE.holds("a call with its answer: " + line, !line.startsWith("city."));
            }
        }
        for (Method m : AirZone.class.getMethods()) {
            boolean isOwn = m.getDeclaringClass() == AirZone.class;
            DUE.holds("the example shows " + m.getName(), !isOwn || shown.contains(m.getName()));
        }
    }

    private long answer(String name, String written) throws ReflectiveOperationException {
        Method method = Arrays.stream(AirZone.class.getMethods()).filter(m -> m.getName().equals(name)).findFirst()
                .orElseThrow();
        String[] parts = written.isEmpty() ? new String[0] : written.split(", ");
        Class<?>[] types = method.getParameterTypes();
        DUE.is("arguments of " + name, parts.length, types.length);
        Object[] given = new Object[types.length];
        for (int i = 0; i < types.length; i++) {
            long value = number(parts[i]);
            given[i] = types[i] == long.class ? (Object) value : types[i] == boolean.class ? value == 1 : (int) value;
        }
        Object answer = method.invoke(city, given);
        return answer instanceof Boolean yes ? yes ? 1 : 0 : (Integer) answer;
    }

    private static long number(String written) {
        if (written.startsWith("signs(\"")) {
            return Due.signs(written.substring(7, written.length() - 2));
        }
        return written.equals("true") ? 1 : written.equals("false") ? 0 : Long.decode(written);
    }
}
