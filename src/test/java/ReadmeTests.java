import java.io.IOException;
import java.lang.reflect.Method;
import java.lang.reflect.Modifier;
import java.nio.file.Files;
import java.nio.file.Path;
import java.util.Arrays;
import java.util.regex.Matcher;
import java.util.regex.Pattern;

/** README.md's own calls, one after the other on one object, answer as it says behind them. */
public final class ReadmeTests {
    private static final Pattern CALL = Pattern.compile("x\\.(\\w+)\\((.*?)\\); *// (-?\\d+)(:.*)?");
    private static final String MADE = "ThrownBack x = new ThrownBack();";

    private ReadmeTests() { }

    public static void main(String[] args) throws IOException, ReflectiveOperationException {
        String all = Files.readString(Path.of("README.md"));
        String[] parts = all.split("```");
        Check.holds("README.md begins its calls with a new object", parts.length > 1 && parts[1].startsWith("java\n" + MADE));
        ThrownBack x = new ThrownBack();
        int calls = 0;
        for (String line : parts[1].substring(("java\n" + MADE).length()).strip().split("\n")) {
            Matcher m = CALL.matcher(line);
            boolean isCall = m.matches();
            Check.holds("a call with its answer: " + line, isCall);
            if (isCall) {
                Check.due(line, answer(x, m.group(1), m.group(2)), Long.parseLong(m.group(3)));
                calls++;
            }
        }
        Check.holds("README.md has calls", calls > 0);
        for (Method one : ThrownBack.class.getDeclaredMethods()) {
            boolean isHidden = !Modifier.isPublic(one.getModifiers());
            Check.holds("README.md names " + one.getName(), isHidden || all.contains("`" + one.getName() + "`"));
        }
        Check.end("ReadmeTests");
    }

    private static long answer(ThrownBack x, String name, String told) throws ReflectiveOperationException {
        Method call = Arrays.stream(ThrownBack.class.getDeclaredMethods())
                .filter(m -> Modifier.isPublic(m.getModifiers()) && m.getName().equals(name)).findFirst().orElseThrow();
        Object[] numbers = told.isEmpty() ? new Object[0] : Arrays.stream(told.split(", ")).map(ReadmeTests::number).toArray();
        return ((Number) call.invoke(x, numbers)).longValue();
    }

    private static Integer number(String told) {
        return told.startsWith("'") ? (Integer) (int) told.charAt(1) : Integer.valueOf(told);
    }
}
