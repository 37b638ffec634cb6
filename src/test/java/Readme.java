import java.io.IOException;
import java.nio.file.Files;
import java.nio.file.Path;
import java.util.ArrayList;
import java.util.List;
import java.util.regex.Matcher;
import java.util.regex.Pattern;

/** What README.md shows: examples, line by line, and calls with the exceptions told for them. */
final class Readme {
    /** A call in an example, and the answer or exception that README.md tells for it; no call when that is null. */
    record Shown(int line, String code, boolean thrown, String want) {
        boolean isCall() {
            return want != null;
        }
    }

    record Told(String signature, String name, List<String> exceptions) {
    }

    private static final Pattern MAKES = Pattern.compile("ObjectLinks x = new ObjectLinks\\(\\);");
    private static final Pattern CALLS =
            Pattern.compile("((?:int \\w+ = )?x\\.\\w+\\([^()]*\\);)\\s+// (answers|throws) (-?\\d+|\\w+)(?:: .+)?");
    private static final Pattern HEADING = Pattern.compile("### `(int (\\w+)\\([^()]*\\))`");
    private static final Pattern EXCEPTION = Pattern.compile("- `(\\w+)`: .*");

    final List<List<Shown>> examples = new ArrayList<>();
    final List<Told> calls = new ArrayList<>();
    /** Lines in an example that tell no answer, so that nothing can be held against them. */
    final List<String> unclear = new ArrayList<>();

    Readme(Path file) throws IOException {
        boolean inExample = false;
        int line = 0;
        for (String text : Files.readAllLines(file)) {
            line++;
            if (text.startsWith("```")) {
                inExample = text.equals("```java");
                if (inExample) {
                    examples.add(new ArrayList<>());
                }
            } else if (inExample) {
                takeExampleLine(line, text.strip());
            } else {
                takeOfList(text);
            }
        }
    }

    private void takeExampleLine(int line, String text) {
        Matcher call = CALLS.matcher(text);
        List<Shown> example = examples.get(examples.size() - 1);
        if (call.matches()) {
            example.add(new Shown(line, call.group(1), call.group(2).equals("throws"), call.group(3)));
        } else if (MAKES.matcher(text).matches()) {
            example.add(new Shown(line, text, false, null));
        } else if (!text.isEmpty()) {
            unclear.add("line " + line + ": " + text);
        }
    }

    private void takeOfList(String text) {
        Matcher heading = HEADING.matcher(text);
        Matcher exception = EXCEPTION.matcher(text);
        if (heading.matches()) {
            calls.add(new Told(heading.group(1), heading.group(2), new ArrayList<>()));
        } else if (exception.matches() && exception.group(1).endsWith("Exception")) {
            calls.get(calls.size() - 1).exceptions().add(exception.group(1));
        }
    }
}
