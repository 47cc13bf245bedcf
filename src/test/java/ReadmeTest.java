import java.io.IOException;
import java.nio.file.Files;
import java.nio.file.Path;
import java.util.HashMap;
import java.util.Map;
import java.util.regex.Matcher;
import java.util.regex.Pattern;

/** The example in README.md answers what its comments say. */
public final class ReadmeTest {
    private static final Pattern CALL =
            Pattern.compile("(?:int (\\w+) = )?desk\\.(\\w+)\\(([^)]*)\\);(?: *// answers (-?\\d+).*)?.*");
    private static final String MADE = "ApprovalGrid desk = new ApprovalGrid();";
    private static final Checks checks = new Checks();

    public static void main(String[] args) throws IOException {
        TextDesk desk = TextDesk.of("");
        Map<String, String> values = new HashMap<>();
        int told = 0;
        for (String line : example()) {
            Matcher call = CALL.matcher(line);
            if (!call.matches()) {
                checks.same("no call, and not where the desk is made: " + line, line.equals(MADE), true);
                continue;
            }
            String answer = desk.answer(asText(call, values));
            values.put(call.group(1), answer);
            checks.same(line + " is taken", TextDesk.isException(answer), false);
            if (call.group(4) != null) {
                told++;
                checks.same(line, Long.parseLong(answer), Long.parseLong(call.group(4)));
            }
        }
        checks.same("some lines tell an answer", told > 2, true);
        checks.end();
    }

    private static String[] example() throws IOException {
        String text = Files.readString(Path.of("README.md"));
        String behindStart = text.substring(text.indexOf("```java") + "```java".length()).trim();
        return behindStart.substring(0, behindStart.indexOf("```")).trim().split("\n");
    }

    private static String asText(Matcher call, Map<String, String> values) {
        StringBuilder text = new StringBuilder(call.group(2));
        for (String argument : call.group(3).split(", *")) {
            text.append(" ").append(values.getOrDefault(argument, argument));
        }
        return text.toString().trim();
    }
}
