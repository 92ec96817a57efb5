import java.io.IOException;
import java.nio.file.Files;
import java.nio.file.Path;
import java.util.Set;
import java.util.TreeSet;
import java.util.regex.Matcher;
import java.util.regex.Pattern;

/** README.md's example answers what it says, and its table names each call and finding as they are. */
public final class ReadmeTest {
    /** A row of the example: a call, and behind // the answer that it tells. */
    private static final Pattern EXAMPLE = Pattern.compile("(?m)^maze\\.(\\w+)\\(([^)]*)\\);\\s*// (-?\\d+)\\b");
    /** A call in the first column of a table. */
    private static final Pattern CALL = Pattern.compile("(?m)^\\| `(\\w+)\\(([^)]*)\\)` \\|");
    private static final Pattern FINDING = Pattern.compile("(?m)^\\| (-\\d+) \\| ([A-Z]+) \\|");

    public static void main(String[] args) throws IOException {
        String text = Files.readString(Path.of("README.md"));
        example(text);
        calls(text);
        findings(text);
        Script.end("ReadmeTest");
    }

    private static void example(String text) {
        MirrorMaze maze = new MirrorMaze();
        Matcher rows = EXAMPLE.matcher(text);
        int count = 0;
        while (rows.find()) {
            String call = (rows.group(1) + " " + rows.group(2).replace(",", " ")).trim();
            Script.due("README.md", call, Script.call(maze, call), Integer.parseInt(rows.group(3)));
            count++;
        }
        Script.due("README.md", "rows of the example that tell no answer", linesWithMaze(text) - count, 0);
    }

    private static int linesWithMaze(String text) {
        return (int) text.lines().filter(line -> line.startsWith("maze.")).count();
    }

    private static void calls(String text) {
        Set<String> told = new TreeSet<>();
        Matcher rows = CALL.matcher(text);
        while (rows.find()) {
            int parameters = rows.group(2).isBlank() ? 0 : rows.group(2).split(",").length;
            told.add(rows.group(1) + " " + parameters);
        }
        Set<String> due = new TreeSet<>();
        Script.callsOf(MirrorMaze.class).forEach((name, method) -> {
            if (java.lang.reflect.Modifier.isPublic(method.getModifiers())) {
                due.add(name + " " + method.getParameterCount());
            }
        });
        Script.due("README.md", "the calls " + told + " are those of the class", told.equals(due) ? 1 : 0, 1);
    }

    private static void findings(String text) {
        int count = 0;
        Matcher rows = FINDING.matcher(text);
        while (rows.find()) {
            Script.due("README.md", rows.group(2), Integer.parseInt(rows.group(1)), Script.answerOf(rows.group(2)));
            count++;
        }
        Script.due("README.md", "findings that are told", count, 7);
    }
}
