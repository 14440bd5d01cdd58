import java.nio.file.Files;
import java.nio.file.Path;
import java.util.List;
import java.util.regex.Matcher;
import java.util.regex.Pattern;

/** The calls of README.md's example answer what their comments there say. */
public final class ReadmeTest {
    private static final Checks C = new Checks();
    private static final Pattern TEXT = Pattern.compile("String text = \"(.*?)\";.*");
    private static final Pattern CALL = Pattern.compile("x\\.(\\w+)\\((.*)\\); *// (-?[0-9]+)(?:[:,].*)");

    public static void main(String[] args) throws Exception {
        C.part("README.md");
        List<String> lines = Files.readAllLines(Path.of("README.md"));
        int first = lines.indexOf("```java");
        List<String> example = lines.subList(first + 1, first + lines.subList(first, lines.size()).indexOf("```"));
        MoonVeto x = null;
        String text = "";
        int calls = 0;
        for (String line : example) {
            Matcher told = TEXT.matcher(line);
            if (told.matches()) {
                text = told.group(1);
                x = Checks.of(text);
            }
            Matcher call = CALL.matcher(line);
            if (call.matches()) {
                calls++;
                C.due(line, answer(x, call.group(1), call.group(2), text.length()), Long.parseLong(call.group(3)));
            }
        }
        C.due("calls of the example with an answer", calls, 12);
        C.due("odds(1, 40, 1), which a comment tells", x == null ? 0 : x.odds(1, 40, 1), 2);
        C.end("ReadmeTest");
    }

    private static long answer(MoonVeto x, String name, String numbers, int length) throws Exception {
        String[] given = numbers.isEmpty() ? new String[0] : numbers.split(", ");
        for (java.lang.reflect.Method m : MoonVeto.class.getMethods()) {
            if (m.getName().equals(name) && m.getParameterCount() == given.length) {
                Object[] values = new Object[given.length];
                for (int k = 0; k < given.length; k++) {
                    values[k] = value(given[k], length);
                }
                return ((Number) m.invoke(x, values)).longValue();
            }
        }
        throw new IllegalStateException("there is no call " + name + " of " + given.length);
    }

    private static Object value(String given, int length) {
        switch (given) {
            case "true": return true;
            case "false": return false;
            case "text.length()": return length;
            default: return Integer.valueOf(given);
        }
    }
}
