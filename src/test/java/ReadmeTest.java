import java.io.IOException;
import java.nio.file.Files;
import java.nio.file.Path;
import java.util.List;
import java.util.Set;
import java.util.TreeSet;
import java.util.regex.Matcher;
import java.util.regex.Pattern;

/** README.md has an example of every call, each with the answer that it gives, and the command that runs the tests. */
public final class ReadmeTest {
    private static final Check CHECK = new Check();
    private static final String NEW_OBJECT = "TransitRows rows = new TransitRows();";
    private static final Pattern CALL = Pattern.compile("rows\\.(\\w+\\([^)]*\\)); +// (-?\\w+)(:.*)?");

    public static void main(String[] args) throws IOException {
        List<String> readme = Files.readAllLines(Path.of("README.md"));
        CHECK.due("README.md has a line with the command alone", readme.contains("    .ci/run"), true);
        List<String> example = exampleOf(readme);
        CHECK.due("the example begins with a new object", example.indexOf(NEW_OBJECT), 0);
        TransitRows rows = new TransitRows();
        Set<String> called = new TreeSet<>();
        for (String line : example) {
            if (!line.isEmpty() && !line.startsWith("//") && !line.equals(NEW_OBJECT)) {
                called.add(makeCall(rows, line));
            }
        }
        CHECK.dueText("the calls of the example", called.toString(), Calls.namesOfTheFace().toString());
        CHECK.end();
    }

    private static List<String> exampleOf(List<String> readme) {
        int first = readme.indexOf("```java") + 1;
        List<String> rest = readme.subList(first, readme.size());
        return rest.subList(0, Math.max(0, rest.indexOf("```")));
    }

    private static String makeCall(TransitRows rows, String line) {
        Matcher matcher = CALL.matcher(line);
        if (!matcher.matches()) {
            CHECK.dueText("a line of the example", line, "a call with its answer");
            return "";
        }
        String call = matcher.group(1);
        CHECK.dueText(call, Calls.answerOf(rows, call), matcher.group(2));
        return Calls.nameOf(call);
    }
}
