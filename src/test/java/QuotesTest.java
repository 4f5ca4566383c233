import java.io.IOException;
import java.nio.file.DirectoryStream;
import java.nio.file.Files;
import java.nio.file.Path;
import java.util.ArrayList;
import java.util.LinkedHashSet;
import java.util.List;
import java.util.Set;
import java.util.regex.Matcher;
import java.util.regex.Pattern;

/**
 * Looks whether each sentence of the document's terms, and each range, each "Returns" and each "Throws" of its promises,
 * is quoted by a test, and whether what tests quote stands in the document. It is given the paths of the source, of the
 * tests and of the document.
 */
public final class QuotesTest {

    private static final Check check = new Check("quotes");

    private static final String LITERAL = "\"(?:[^\"\\\\]|\\\\.)*\"";
    private static final String JOINED = LITERAL + "(?:\\s*\\+\\s*" + LITERAL + ")*";
    private static final Set<String> NOT_TO_BE_TESTED = Set.of(
            "The angle is told with its doubt.", "The class is not thread-safe.");

    public static void main(String[] args) throws IOException {
        Path document = Path.of(args[2]);
        if (!Files.isReadable(document)) {
            System.out.println("quotes: there is no " + document);
            return;
        }
        List<String> lines = Files.readAllLines(document);
        Set<String> said = saidIn(Path.of(args[1]));
        for (String sentence : sentencesOf(lines)) {
            check.same("quoted is: " + sentence, said.contains(sentence), true);
        }
        Set<String> all = new LinkedHashSet<>(promisesOf(lines, true));
        all.addAll(sentencesOf(lines));
        for (String quote : said) {
            check.same("in the document is: " + quote, all.contains(quote), true);
        }
        check.end();
    }

    // ---- the tests

    private static Set<String> saidIn(Path tests) throws IOException {
        Set<String> said = new LinkedHashSet<>();
        try (DirectoryStream<Path> files = Files.newDirectoryStream(tests, "*Test.java")) {
            for (Path file : files) {
                String source = Files.readString(file);
                Matcher matcher = Pattern.compile("check\\.says\\((?:(\\d+), )?(" + JOINED + "|[A-Z_]+)\\);")
                        .matcher(source);
                while (matcher.find()) {
                    String text = matcher.group(2);
                    String quote = text.startsWith("\"") ? joined(text) : constant(source, text);
                    said.add(matcher.group(1) == null ? quote : matcher.group(1) + ": " + quote);
                }
            }
        }
        return said;
    }

    private static String constant(String source, String name) {
        Matcher matcher = Pattern.compile("String " + name + " = (" + JOINED + ");").matcher(source);
        return matcher.find() ? joined(matcher.group(1)) : "no constant " + name;
    }

    private static String joined(String literals) {
        StringBuilder text = new StringBuilder();
        Matcher matcher = Pattern.compile(LITERAL).matcher(literals);
        while (matcher.find()) {
            String one = matcher.group();
            text.append(one, 1, one.length() - 1);
        }
        return text.toString().replace("\\\"", "\"");
    }

    // ---- the document

    /** What must be quoted; lines of promises have the promise's number ahead. */
    private static Set<String> sentencesOf(List<String> lines) {
        Set<String> sentences = new LinkedHashSet<>();
        int from = lines.indexOf("## Terms") + 1;
        StringBuilder paragraph = new StringBuilder();
        for (int k = from; k < lines.size() && !lines.get(k).startsWith("## "); k++) {
            if (!lines.get(k).isEmpty()) {
                paragraph.append(lines.get(k)).append(' ');
            } else {
                addSentences(sentences, paragraph.toString().trim());
                paragraph.setLength(0);
            }
        }
        for (String line : promisesOf(lines, false)) {
            boolean isNamed = line.matches("\\d+: (Throws|Returns) .*") || line.matches("\\d+: - .*: .*\\d.*");
            if (isNamed) {
                sentences.add(line);
            }
        }
        return sentences;
    }

    private static void addSentences(Set<String> sentences, String paragraph) {
        if (paragraph.startsWith("Ahead of the calls")) {
            return;
        }
        for (String sentence : paragraph.split("(?<=\\.) (?=[A-Z])")) {
            boolean isHeading = sentence.matches("[A-Z][a-z]*\\.");
            if (!sentence.isEmpty() && !isHeading && !NOT_TO_BE_TESTED.contains(sentence)) {
                sentences.add(sentence);
            }
        }
    }

    /** All lines of the promises, without or with what stands behind their signatures. */
    private static List<String> promisesOf(List<String> lines, boolean isWithSignatures) {
        List<String> promises = new ArrayList<>();
        String number = "";
        for (String line : lines) {
            if (line.startsWith("## ")) {
                number = line.startsWith("## Promise ") ? line.substring(11, line.indexOf(':')) : "";
            } else if (!number.isEmpty() && line.startsWith("`")) {
                if (isWithSignatures) {
                    promises.add(number + ": " + line.substring(line.indexOf("`: ") + 3));
                }
            } else if (!number.isEmpty() && !line.isEmpty()) {
                promises.add(number + ": " + line);
            }
        }
        return promises;
    }
}
