import java.io.IOException;
import java.nio.file.Files;
import java.nio.file.Path;
import java.util.Map;
import java.util.Set;
import java.util.TreeSet;
import java.util.regex.Matcher;
import java.util.regex.Pattern;

/** Runs the calls that README.md shows, and looks whether it shows each kind of call. */
public final class ReadmeTest {
    private static final Pattern BLOCK = Pattern.compile("```java\\n(.*?)```", Pattern.DOTALL);
    private static final Pattern CALL = Pattern.compile("watches\\.(\\w+)\\(([-0-9, ]*)\\); +// (-?\\d+|[A-Z_]+): .*");
    private static final Pattern TYPED =
            Pattern.compile("for \\(char sign : (\"[^\"]*\")\\.toCharArray\\(\\)\\) watches\\.append\\(sign\\); +// (\\d+): .*");
    private static final String MAKING = "RockWatches watches = new RockWatches();";
    private static final Map<String, String> ERRORS = Map.of(
            "INVALID_ARGUMENT", "INVALID", "ILLEGAL_STATE", "ILLEGAL", "CAPACITY_EXCEEDED", "FULL", "NONE", "NONE");

    private final StringBuilder script = new StringBuilder();
    private final Set<String> shown = new TreeSet<>();
    private int objects = 0;

    private ReadmeTest() {
    }

    public static void main(String[] arguments) throws IOException {
        ReadmeTest test = new ReadmeTest();
        Matcher block = BLOCK.matcher(Files.readString(Path.of("README.md")));
        while (block.find()) {
            block.group(1).lines().forEach(test::read);
        }
        Script.check("README.md has a run of calls on one object", test.objects == 1);
        Script.check("README.md shows each call: " + test.shown, test.shown.equals(new TreeSet<>(FaceTest.FACE)));
        Script.run("README.md", test.script.toString());
        Script.finish();
    }

    private void read(String line) {
        Matcher call = CALL.matcher(line);
        Matcher typed = TYPED.matcher(line);
        if (call.matches()) {
            show(call.group(1), call.group(2).isBlank() ? 0 : call.group(2).split(",").length);
            script.append(call.group(1) + "(" + call.group(2) + ") = " + ERRORS.getOrDefault(call.group(3), call.group(3)) + "\n");
        } else if (typed.matches()) {
            show("append", 1);
            script.append("type(" + typed.group(1) + ") = " + typed.group(2) + "\n");
        } else if (line.startsWith(MAKING)) {
            objects++;
        } else {
            Script.check("README.md: " + line, line.isBlank() || line.startsWith("//"));
        }
    }

    private void show(String name, int numbers) {
        shown.add(name + " " + numbers);
    }
}
