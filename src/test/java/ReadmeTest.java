import java.io.IOException;
import java.nio.file.Files;
import java.nio.file.Path;
import java.util.ArrayList;
import java.util.List;
import java.util.regex.Matcher;
import java.util.regex.Pattern;

/**
 * The calls in README.md, one after the other on one object, each with the answer that stands behind it, and its table
 * of orders, carried out as one text.
 */
public final class ReadmeTest {
    private static final Pattern MADE = Pattern.compile("BellObservatory town = new BellObservatory\\(\\);");
    private static final Pattern CALL = Pattern.compile("town\\.(\\w+\\(.*\\)); +// ([^:]+?)(?::.*)?");
    private static final Pattern TEXT =
            Pattern.compile("for \\(char c : \"(.*)\"\\.toCharArray\\(\\)\\) \\{ town\\.append\\(c\\); \\}");
    private static final Pattern ORDER = Pattern.compile("\\| `([a-z]\\d\\S*)` \\|.*");
    private static final Check CHECK = new Check("ReadmeTest");

    public static void main(String[] args) throws IOException {
        Script script = new Script();
        List<String> orders = new ArrayList<>();
        boolean isCode = false;
        for (String line : Files.readAllLines(Path.of("README.md"))) {
            if (line.startsWith("```")) {
                isCode = line.equals("```java");
            } else if (isCode) {
                checkLine(script, line);
            }
            Matcher order = ORDER.matcher(line);
            if (order.matches()) {
                orders.add(order.group(1));
            }
        }
        CHECK.due("the kinds of orders", 7, () -> orders.size());
        CHECK.due("the text of them", List.of("7"), () -> new Script().answers("text(" + String.join(";", orders) + ")"));
        CHECK.end();
    }

    private static void checkLine(Script script, String line) {
        Matcher call = CALL.matcher(line);
        Matcher text = TEXT.matcher(line);
        if (call.matches()) {
            CHECK.due(call.group(1), List.of(call.group(2)), () -> script.answers(call.group(1)));
        } else if (text.matches()) {
            script.answers("type(" + text.group(1) + ")");
        } else {
            CHECK.due("a line that is a call: " + line, true, () -> MADE.matcher(line).matches());
        }
    }
}
