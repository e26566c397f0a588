import java.io.IOException;
import java.nio.file.Files;
import java.nio.file.Path;
import java.util.HashMap;
import java.util.Map;
import java.util.regex.Matcher;
import java.util.regex.Pattern;

/** The calls that README.md shows answer what it says behind them. */
public final class ReadmeTest {
    private static final Path README = Path.of("README.md");
    private static final int FEWEST_CALLS = 30;
    private static final Pattern BLOCK = Pattern.compile("(?s)```java\n(.*?)```");
    private static final String FIRST_LINE = "TownFolk town = new TownFolk();";
    private static final Pattern CALL =
        Pattern.compile("(?:int (\\w+) = )?town\\.(\\w+)\\((.*?)\\);\\s*// (-?\\d+)(?:[:,].*)?");

    private ReadmeTest() {
    }

    private static Object value(String told, Map<String, Integer> named) {
        if (told.equals("true") || told.equals("false")) {
            return Boolean.valueOf(told);
        }
        Integer known = named.get(told);
        return known != null ? known : Integer.valueOf(told);
    }

    private static Object[] values(String list, Map<String, Integer> named) {
        if (list.isEmpty()) {
            return new Object[0];
        }
        String[] told = list.split(", ");
        Object[] values = new Object[told.length];
        for (int i = 0; i < told.length; i++) {
            values[i] = value(told[i], named);
        }
        return values;
    }

    private static int calls(String block) {
        Run town = new Run();
        Map<String, Integer> named = new HashMap<>();
        int calls = 0;
        for (String line : block.split("\n")) {
            if (line.isBlank() || line.equals(FIRST_LINE)) {
                continue;
            }
            Matcher call = CALL.matcher(line);
            boolean isCall = call.matches();
            Report.holds(isCall, "no call with its answer: " + line);
            if (isCall) {
                calls++;
                int want = Integer.parseInt(call.group(4));
                town.due(want, call.group(2), values(call.group(3), named));
                named.put(call.group(1), want);
            }
        }
        return calls;
    }

    public static void main(String[] args) throws IOException {
        Report.setting("README.md");
        Matcher block = BLOCK.matcher(Files.readString(README));
        int calls = 0;
        while (block.find()) {
            calls += calls(block.group(1));
        }
        Report.holds(calls >= FEWEST_CALLS, "only " + calls + " calls are shown");
        Report.end("ReadmeTest");
    }
}
