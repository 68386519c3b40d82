import java.io.IOException;
import java.nio.file.DirectoryStream;
import java.nio.file.Files;
import java.nio.file.Path;
import java.util.regex.Matcher;
import java.util.regex.Pattern;

/** Each sentence of the document, from the terms to the last promise, is said by a test that stands for it. */
public final class SentencesTest {
    private static final Check check = new Check("SentencesTest");
    private static final Pattern SAID = Pattern.compile("sentence\\(\\s*((?:\"(?:[^\"\\\\]|\\\\.)*\"\\s*\\+?\\s*)+)\\)");
    private static final Pattern LITERAL = Pattern.compile("\"((?:[^\"\\\\]|\\\\.)*)\"");

    public static void main(String[] args) throws IOException {
        String document = Check.document();
        boolean[] said = new boolean[document.length()];
        int sentences = 0;
        check.fresh("which sentences the tests stand for");
        try (DirectoryStream<Path> files = Files.newDirectoryStream(Path.of("src/test/java"), "Edges*Test.java")) {
            for (Path file : files) {
                sentences += mark(document, said, Files.readString(file));
            }
        }
        check.due("some hundred sentences", sentences > 200, true);
        int from = document.indexOf("## Terms");
        int to = document.indexOf("## Not promised");
        check.due("the terms and the promises are there", from >= 0 && to > from, true);
        for (String rest : unsaid(document, said, from, to).split("\0+")) {
            if (!withoutHeadings(rest).isEmpty()) {
                check.due("no test stands for: " + rest.strip(), 0, 1);
            }
        }
        check.end();
    }

    private static int mark(String document, boolean[] said, String source) {
        int count = 0;
        Matcher calls = SAID.matcher(source);
        while (calls.find()) {
            StringBuilder words = new StringBuilder();
            Matcher literals = LITERAL.matcher(calls.group(1));
            while (literals.find()) {
                words.append(literals.group(1).replace("\\\"", "\""));
            }
            int at = document.indexOf(words.toString());
            check.due("the document says: " + words, at >= 0, true);
            for (int i = Math.max(at, 0); i < at + words.length(); i++) {
                said[i] = true;
            }
            count++;
        }
        return count;
    }

    private static String unsaid(String document, boolean[] said, int from, int to) {
        StringBuilder rest = new StringBuilder();
        for (int i = Math.max(from, 0); i < to; i++) {
            rest.append(said[i] ? '\0' : document.charAt(i));
        }
        return rest.toString();
    }

    /** Headings, fences and the promises' signatures are no sentences. */
    private static String withoutHeadings(String text) {
        return text.replaceAll("```(text)?", "").replaceAll("## Terms", "").replaceAll("(## Promise \\d+)?: [\\w ]+ `[^`]*`:", "").strip();
    }
}
