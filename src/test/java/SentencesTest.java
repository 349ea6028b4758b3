import java.io.IOException;
import java.nio.charset.StandardCharsets;
import java.nio.file.DirectoryStream;
import java.nio.file.Files;
import java.nio.file.Path;
import java.util.ArrayList;
import java.util.List;
import java.util.regex.Matcher;
import java.util.regex.Pattern;

/**
 * Every sentence of the document, from the use of an object to promise 38, has a test of its own: one that names it,
 * or a part of it, by Due.sentence(). Run from the project's root.
 */
final class SentencesTest {
    private static final Pattern NAMED = Pattern.compile("due\\.sentence\\(((?:\\s*\\+?\\s*\"[^\"]*\")+)\\)");
    private static final Pattern PART = Pattern.compile("\"([^\"]*)\"");
    /** A full stop ends a sentence, but not the second of two, as in "0, 1 .. is". */
    private static final String END = "(?<=[^.]\\.|\\.\\))\\s+(?=[A-Z0-9({])";

    public static void main(String[] args) throws IOException {
        Due due = new Due();
        List<String> named = named();
        int sentences = 0;
        for (String sentence : sentences()) {
            sentences++;
            boolean found = named.stream().anyMatch(n -> sentence.contains(n) || n.contains(sentence));
            due.is("there is a test of '" + sentence + "'", found, true);
        }
        due.is("there are some hundred sentences", sentences > 90, true);
        due.end();
    }

    /** What the tests name, with its parts put together. */
    private static List<String> named() throws IOException {
        List<String> named = new ArrayList<>();
        try (DirectoryStream<Path> tests = Files.newDirectoryStream(Path.of("src/test/java"), "*Test.java")) {
            for (Path test : tests) {
                Matcher call = NAMED.matcher(Files.readString(test, StandardCharsets.UTF_8));
                while (call.find()) {
                    StringBuilder words = new StringBuilder();
                    Matcher part = PART.matcher(call.group(1));
                    while (part.find()) {
                        words.append(part.group(1));
                    }
                    named.add(words.toString());
                }
            }
        }
        return named;
    }

    private static List<String> sentences() throws IOException {
        List<String> sentences = new ArrayList<>();
        boolean begun = false;
        for (String line : Files.readAllLines(Path.of("../shared/DOC.md"), StandardCharsets.UTF_8)) {
            begun = (begun || line.equals("## Terms")) && !line.equals("## Not promised");
            boolean isHead = line.startsWith("#") || line.startsWith("```") || line.startsWith("Ahead of the calls");
            if (begun && !isHead) {
                String words = line.replaceAll("^==== \\d\\. ", "").replaceAll("^`[^`]*`: ", "").trim();
                for (String sentence : words.split(END)) {
                    if (!sentence.isBlank()) {
                        sentences.add(sentence.trim());
                    }
                }
            }
        }
        return sentences;
    }
}
