import java.io.File;
import java.util.ArrayList;
import java.util.Arrays;
import java.util.List;
import java.util.regex.Matcher;
import java.util.regex.Pattern;

/** Each quote stands in the document, and each sentence from its Terms to its last promise is quoted by a test. */
public final class SentencesTest {
    private static final Pattern SAYS = Pattern.compile("c\\.says\\(((\\s*\"(\\\\.|[^\"\\\\])*\"\\s*\\+?)+)\\)");
    private static final Pattern LITERAL = Pattern.compile("\"((\\\\.|[^\"\\\\])*)\"");

    private static List<String> quotes() {
        List<String> quotes = new ArrayList<>();
        File[] files = new File("src/test/java").listFiles((folder, name) -> name.endsWith("Test.java"));
        Arrays.sort(files);
        for (File file : files) {
            Matcher says = SAYS.matcher(Document.read(file.getPath()));
            while (says.find()) {
                StringBuilder words = new StringBuilder();
                Matcher literal = LITERAL.matcher(says.group(1));
                while (literal.find()) words.append(literal.group(1));
                quotes.add(words.toString());
            }
        }
        return quotes;
    }

    /** What is left of the document where all that is quoted, headings and the face are taken out. */
    private static String left(List<String> quotes) {
        String text = Document.text();
        int from = text.indexOf("## Terms");
        int to = text.indexOf("## Not promised");
        boolean[] quoted = new boolean[text.length()];
        for (String words : quotes) {
            for (int at = text.indexOf(words); at >= 0; at = text.indexOf(words, at + 1)) Arrays.fill(quoted, at, at + words.length(), true);
        }
        StringBuilder left = new StringBuilder();
        for (int i = from; i < to; i++) left.append(quoted[i] ? '\n' : text.charAt(i));
        return left.toString().replaceAll("## Promise \\d+: [^`]*`[^`]*`:", "\n").replaceAll("Ahead of the calls (`\\w+`,? )+the interface says: ---- [\\w ]+\\.", "\n")
            .replaceAll("## Terms|```(text)?|==== \\d\\.|By hand:", "\n");
    }

    public static void main(String[] args) {
        List<String> quotes = quotes();
        int unquoted = 0;
        int strange = 0;
        for (String words : quotes) {
            if (!Document.text().contains(words)) {
                strange++;
                System.out.println("SentencesTest: the document does not say: " + words);
            }
        }
        for (String piece : left(quotes).split("\n")) {
            if (piece.matches(".*\\w{3}.*")) {
                unquoted++;
                System.out.println("SentencesTest: no test quotes: " + piece.trim());
            }
        }
        System.out.println("SentencesTest: " + quotes.size() + " quotes, " + unquoted + " places are left");
        if (unquoted != 0 || strange != 0 || quotes.size() < 48) System.exit(1);
    }
}
