import java.io.IOException;
import java.lang.reflect.Method;
import java.nio.file.Files;
import java.nio.file.Path;
import java.util.HashSet;
import java.util.Set;
import java.util.regex.Matcher;
import java.util.regex.Pattern;

/** The calls that README.md shows answer what it says, and it names every call. Runs from the project's root. */
public final class ReadmeTest {
    private static final Pattern CALL = Pattern.compile("x\\.(\\w+)\\(([^)]*)\\);\\s+// (-?\\d+)(:.*)?");

    public static void main(String[] args) throws IOException, ReflectiveOperationException {
        TurnPort x = null;
        int calls = 0;
        Set<String> shown = new HashSet<>();
        String text = Files.readString(Path.of("README.md"));
        for (String line : text.split("\n")) {
            Matcher m = CALL.matcher(line);
            if (line.equals("TurnPort x = new TurnPort();")) {
                x = new TurnPort();
            } else if (m.matches() && x != null) {
                calls++;
                shown.add(m.group(1));
                Due.is("README: " + line, answer(x, m.group(1), m.group(2)), Long.parseLong(m.group(3)));
            } else {
                Due.holds("README, a call with its answer: " + line, !line.startsWith("x."));
            }
        }
        Due.holds("calls were seen: " + calls, calls > 20);
        for (Method m : TurnPort.class.getMethods()) {
            if (m.getDeclaringClass() == TurnPort.class) {
                Due.holds("README names " + m.getName(), shown.contains(m.getName()) || text.contains("`" + m.getName() + "`"));
            }
        }
        Due.end("ReadmeTest");
    }

    private static long answer(TurnPort x, String name, String list) throws ReflectiveOperationException {
        String[] numbers = list.isEmpty() ? new String[0] : list.split(", ");
        for (Method m : TurnPort.class.getMethods()) {
            if (m.getName().equals(name) && m.getParameterCount() == numbers.length) {
                Object[] given = new Object[numbers.length];
                for (int i = 0; i < given.length; i++) {
                    long v = Long.decode(numbers[i].replace("L", ""));
                    given[i] = m.getParameterTypes()[i] == long.class ? (Object) v : (Object) (int) v;
                }
                return ((Number) m.invoke(x, given)).longValue();
            }
        }
        throw new NoSuchMethodException(name);
    }
}
