import java.io.IOException;
import java.nio.file.Files;
import java.nio.file.Path;
import java.util.ArrayList;
import java.util.BitSet;
import java.util.List;
import java.util.Map;
import java.util.TreeMap;

/**
 * The document itself. A test tells with says(..) which sentence it holds; that sentence must
 * stand in the document, and behind all tests of a part no word of it may be left that none told.
 */
final class Document {
    private static final Path FILE = Path.of("..", "shared", "DOC.md");
    private static final List<String> WORDS = List.of("Tides", "Members", "Boats", "Choosing",
            "Call-outs", "Oars", "Hours", "Texts", "Reasons", "Changes", "Exceptions", "Details");
    private static final Map<String, String> PARTS = new TreeMap<>();
    private static final Map<String, List<String>> LINES = new TreeMap<>();
    private static final Map<String, BitSet> TOLD = new TreeMap<>();
    private static String latest = "";

    private Document() {
    }

    /** From here on a failure is told with this sentence. */
    static void says(String part, String sentence) {
        latest = part + ", \"" + sentence + "\":\n";
        String text = text(part);
        String plain = plain(sentence);
        int from = text.indexOf(plain);
        if (from < 0) {
            Check.fail("the document does not say so");
            return;
        }
        TOLD.computeIfAbsent(part, k -> new BitSet()).set(from, from + plain.length());
    }

    static String latest() {
        return latest;
    }

    static void allPromisesTold(int from, int to) {
        for (int k = from; k <= to; k++) {
            allTold("Promise " + k);
        }
    }

    static void allTold(String... parts) {
        latest = "";
        for (String part : parts) {
            String text = text(part);
            BitSet told = TOLD.getOrDefault(part, new BitSet());
            StringBuilder left = new StringBuilder();
            for (int k = 0; k < text.length(); k++) {
                left.append(told.get(k) ? ' ' : text.charAt(k));
            }
            String rest = left.toString().replaceAll("[.,;:]", " ").trim();
            Check.same(part + ": what no test told", "", rest);
        }
    }

    /** All parts there are, by their names. */
    static List<String> parts() {
        readOnce();
        return new ArrayList<>(PARTS.keySet());
    }

    /** A part line by line, as it stands there. */
    static List<String> lines(String part) {
        readOnce();
        return LINES.getOrDefault(part, List.of());
    }

    private static void readOnce() {
        if (PARTS.isEmpty()) {
            read();
        }
    }

    private static String text(String part) {
        readOnce();
        return PARTS.getOrDefault(part, "");
    }

    private static void read() {
        try {
            String part = "";
            for (String line : Files.readAllLines(FILE)) {
                part = partOf(line, part);
                LINES.computeIfAbsent(part, k -> new ArrayList<>()).add(line);
                PARTS.merge(part, withoutHead(line, part), (a, b) -> plain(a + " " + b));
            }
        } catch (IOException e) {
            Check.fail("the document cannot be read: " + e);
        }
    }

    private static String partOf(String line, String before) {
        if (line.startsWith("## ")) {
            int colon = line.indexOf(':');
            return line.substring(3, colon < 0 ? line.length() : colon);
        }
        String first = line.substring(0, Math.max(line.indexOf(". "), 0));
        return WORDS.contains(first) ? first : before;
    }

    /** Without the heading, the word of "Terms", or the signature, which FaceTest holds. */
    private static String withoutHead(String line, String part) {
        if (line.startsWith("## ")) {
            return "";
        }
        if (line.startsWith(part + ". ")) {
            return line.substring(part.length() + 2);
        }
        return plain(line.replaceFirst("^`[^`]*`: ", "").replaceFirst("^- ", ""));
    }

    private static String plain(String text) {
        return text.replace("`", "").replaceAll("\\s+", " ").trim();
    }
}
