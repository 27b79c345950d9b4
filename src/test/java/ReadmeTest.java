import java.io.IOException;
import java.nio.file.Files;
import java.nio.file.Path;
import java.util.List;
import java.util.TreeSet;
import java.util.regex.Matcher;
import java.util.regex.Pattern;

/**
 * The example in README.md: all its java blocks, one behind the other, are calls of one rota, and
 * behind each call stands the answer that the class gives. No method of the face is left out.
 */
public final class ReadmeTest {
    private static final Path FILE = Path.of("README.md");
    private static final String FIRST = "BoatRota rota = new BoatRota();";
    private static final Pattern CALL = Pattern.compile("rota\\.(\\w+)\\((.*)\\); +// (.+)");
    private static final Pattern TEXT = Pattern.compile(
            "for \\(char sign : \"(.*)\"\\.toCharArray\\(\\)\\) rota\\.append\\(sign\\);");
    private static final Pattern THROWS = Pattern.compile("throws (\\w+)Exception\\b.*");
    private static final Pattern ANSWER = Pattern.compile("('.'|-?[\\d.]+)(f?)(?:: .+)?");

    public static void main(String[] args) throws IOException {
        StringBuilder run = new StringBuilder();
        TreeSet<String> called = new TreeSet<>();
        int blocks = 0;
        boolean isInside = false;
        for (String line : Files.readAllLines(FILE)) {
            if (line.startsWith("```")) {
                isInside = line.equals("```java");
                blocks += isInside ? 1 : 0;
            } else if (isInside && !line.isBlank() && !line.equals(FIRST)) {
                run.append(call(line.trim(), called)).append(' ');
            }
        }
        Check.same("there are examples", 1, blocks > 0 ? 1 : 0);
        Run.run(run.toString());
        everyMethod(called);
        Check.end("ReadmeTest");
    }

    /** The line as a call of a run. */
    private static String call(String line, TreeSet<String> called) {
        Matcher text = TEXT.matcher(line);
        if (text.matches()) {
            called.add("append");
            return "text(" + text.group(1) + ")";
        }
        Matcher call = CALL.matcher(line);
        if (!call.matches()) {
            Check.fail("README.md: no call with its answer: " + line);
            return "";
        }
        called.add(call.group(1));
        return call.group(1) + "(" + call.group(2).replace("'", "").replace(", ", ",") + ")="
                + due(call.group(3), line);
    }

    private static String due(String comment, String line) {
        Matcher thrown = THROWS.matcher(comment);
        if (thrown.matches()) {
            return thrown.group(1).replaceFirst("Operation$", "");
        }
        Matcher answer = ANSWER.matcher(comment);
        if (!answer.matches()) {
            Check.fail("README.md: no answer: " + line);
            return "";
        }
        return answer.group(1).replace("'", "");
    }

    private static void everyMethod(TreeSet<String> called) {
        TreeSet<String> face = new TreeSet<>();
        for (String line : Document.lines("The public face")) {
            Matcher name = Pattern.compile("    public \\w+ (\\w+)\\(.*").matcher(line);
            if (name.matches()) {
                face.add(name.group(1));
            }
        }
        Check.same("the methods in README.md", List.copyOf(face).toString(),
                List.copyOf(called).toString());
    }
}
