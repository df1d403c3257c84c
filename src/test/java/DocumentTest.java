import java.io.IOException;
import java.nio.file.Files;
import java.nio.file.Path;
import java.util.ArrayList;
import java.util.List;
import java.util.regex.Matcher;
import java.util.regex.Pattern;
import java.util.stream.Collectors;
import java.util.stream.Stream;

/** The sentences that the tests quote stand in the document, and none of its terms and promises is left without a test. */
public final class DocumentTest {
    private static final Path DOCUMENT = Path.of("../shared/DOC.md");
    private static final Path TESTS = Path.of("src/test/java");
    private static final Pattern QUOTE = Pattern.compile("(?:says\\(|rangesOf\\(|String words =)\\s*(\"[^\"]*\"(?:\\s*\\+ \"[^\"]*\")*)");
    /** Headings, the lines on the interface, the signatures of the promises, and signs. */
    private static final Pattern NO_SENTENCE = Pattern.compile(
        "(?m)^#.*$|^```.*$|^======== \\d|^Ahead of the calls.*$|^`[^`]*`:|[^A-Za-z0-9\n]");
    private static final char COVERED = '_';

    public static void main(String[] args) throws IOException {
        if (!Files.isReadable(DOCUMENT)) {
            System.out.println("no document beside the project: its sentences are not looked at");
            return;
        }
        String sentences = sentencesOf(Files.readString(DOCUMENT));
        StringBuilder left = new StringBuilder(sentences);
        for (String quote : quotes()) {
            Check.due("in the document: '" + quote + "'", sentences.contains(quote) ? 1 : 0, 1);
            cover(left, sentences, quote);
        }
        for (String line : left.toString().split("\n")) {
            if (!NO_SENTENCE.matcher(line).replaceAll("").isEmpty()) {
                Check.due("letters without a test in '" + line.replaceAll("__+", " .. ") + "':", 1, 0);
            }
        }
        Check.finish();
    }

    /** How long an object is good, and all from the terms to the last promise. */
    private static String sentencesOf(String document) {
        int object = Math.max(0, document.indexOf("An object is used"));
        int terms = Math.max(0, document.indexOf("## Terms"));
        int end = document.indexOf("## Not promised");
        return document.substring(object, document.indexOf('\n', object)) + "\n"
            + document.substring(terms, end < terms ? document.length() : end);
    }

    private static List<String> quotes() throws IOException {
        List<Path> files;
        try (Stream<Path> all = Files.list(TESTS)) {
            files = all.filter(p -> p.toString().matches(".*(Sentences|Refusals)Test.java")).sorted().collect(Collectors.toList());
        }
        List<String> quotes = new ArrayList<>();
        for (Path file : files) {
            Matcher m = QUOTE.matcher(Files.readString(file));
            while (m.find()) {
                quotes.add(m.group(1).replaceAll("\"\\s*\\+ \"", "").replace("\"", ""));
            }
        }
        return quotes;
    }

    private static void cover(StringBuilder left, String sentences, String quote) {
        for (int at = sentences.indexOf(quote); at >= 0; at = sentences.indexOf(quote, at + 1)) {
            for (int k = 0; k < quote.length(); k++) {
                left.setCharAt(at + k, COVERED);
            }
        }
    }
}
