import java.io.IOException;
import java.nio.file.Files;
import java.nio.file.Path;
import java.util.ArrayList;
import java.util.List;
import java.util.TreeSet;
import java.util.regex.Matcher;
import java.util.regex.Pattern;
import java.util.stream.Stream;

/**
 * Every word of the document's terms and promises stands in the quotation of
 * some test (Check.sentence), and every quotation stands in the document once:
 * a sentence without a test of its own is told here.
 */
public final class SentencesTest {
    private static final Path DOCUMENT = Path.of("../shared/DOC.md");
    private static final Path TESTS = Path.of("src/test/java");
    private static final String FREE = "; what later calls answer is free.";
    private static final Pattern QUOTATION =
        Pattern.compile("Check\\.sentence\\(((?:\\s*\"[^\"]*\"\\s*\\+?)+)\\)");
    private static final Pattern PART = Pattern.compile("\"([^\"]*)\"");

    public static void main(String[] args) throws IOException {
        String document = promisedText();
        boolean[] quoted = new boolean[document.length()];
        List<String> quotations = quotations();
        for (String words : quotations) {
            int at = document.indexOf(words);
            Check.so("the document says: " + words, at >= 0);
            Check.so("it says so once: " + words, document.indexOf(words, at + 1) < 0);
            for (int i = 0; at >= 0 && i < words.length(); i++) {
                quoted[at + i] = true;
            }
        }
        Check.so("no quotation has two tests",
            new TreeSet<>(quotations).size() == quotations.size());
        for (String left : wordsLeft(document, quoted)) {
            Check.so("a test for the words: " + left, false);
        }
        Check.end();
    }

    /** The terms, the promises and the limit of calls, without headings and signatures. */
    private static String promisedText() throws IOException {
        StringBuilder text = new StringBuilder();
        boolean wanted = false;
        for (String line : Files.readAllLines(DOCUMENT)) {
            if (line.startsWith("#")) {
                wanted = line.startsWith("## Terms") || line.startsWith("## Promise ");
            } else if ((wanted || line.startsWith("An object is used")) && !line.startsWith("```")) {
                text.append(line.replaceFirst("^`[^`]*`: ", "")).append(' ');
            }
        }
        return text.toString().replace(FREE, "").replaceAll("\\s+", " ");
    }

    private static List<String> quotations() throws IOException {
        List<String> found = new ArrayList<>();
        try (Stream<Path> files = Files.list(TESTS)) {
            for (Path file : files.sorted().toList()) {
                Matcher quotation = QUOTATION.matcher(Files.readString(file));
                while (quotation.find()) {
                    StringBuilder words = new StringBuilder();
                    Matcher part = PART.matcher(quotation.group(1));
                    while (part.find()) {
                        words.append(part.group(1));
                    }
                    found.add(words.toString());
                }
            }
        }
        return found;
    }

    private static List<String> wordsLeft(String document, boolean[] quoted) {
        List<String> left = new ArrayList<>();
        StringBuilder words = new StringBuilder();
        for (int i = 0; i < document.length(); i++) {
            if (!quoted[i]) {
                words.append(document.charAt(i));
            }
            if (quoted[i] || i == document.length() - 1) {
                String piece = words.toString();
                if (piece.chars().anyMatch(Character::isLetterOrDigit)) {
                    left.add(piece.trim());
                }
                words.setLength(0);
            }
        }
        return left;
    }
}
