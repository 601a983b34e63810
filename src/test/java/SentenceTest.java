import java.io.IOException;
import java.nio.file.Files;
import java.nio.file.Path;
import java.util.ArrayList;
import java.util.List;
import java.util.regex.Matcher;
import java.util.regex.Pattern;
import java.util.stream.Stream;

/** Each sentence of the document has checks of its own: the tests quote its words, and none of these may lack a quote. */
final class SentenceTest {
    private static final Check CHECK = new Check("SentenceTest");
    private static final Pattern QUOTE = Pattern.compile("CHECK\\.sentence\\(((?:\\s*\\+?\\s*\"(?:[^\"\\\\]|\\\\.)*\")+)\\)");
    private static final Pattern PIECE = Pattern.compile("\"((?:[^\"\\\\]|\\\\.)*)\"");

    public static void main(String[] args) throws IOException {
        String document = plain(Files.readString(Path.of("../shared/DOC.md")));
        boolean[] quoted = new boolean[document.length()];
        for (String quote : quotes()) {
            mark(document, quoted, quote);
        }
        lackNone(document, quoted, document.indexOf("SIDES 0 (left)"), document.indexOf("## Not promised"));
        CHECK.close();
    }

    /** One line, without the marks of code and the headings and faces of promises. */
    private static String plain(String text) {
        return text.replaceAll("```text|```", " ").replaceAll("==== I+\\.", " ")
                .replaceAll("(?m)^## Promise .*$", " ").replaceAll("(?m)^`[^`]*\\)`: ", " ").replaceAll("\\s+", " ");
    }

    private static List<String> quotes() throws IOException {
        List<String> quotes = new ArrayList<>();
        try (Stream<Path> files = Files.list(Path.of("src/test/java"))) {
            for (Path file : files.sorted().toList()) {
                Matcher m = QUOTE.matcher(Files.readString(file));
                while (m.find()) {
                    StringBuilder b = new StringBuilder();
                    Matcher pieces = PIECE.matcher(m.group(1));
                    while (pieces.find()) {
                        b.append(pieces.group(1));
                    }
                    quotes.add(b.toString());
                }
            }
        }
        CHECK.is("quotes are found", quotes.size() > 50, true);
        return quotes;
    }

    /** A quote that stands twice would not tell which sentence it is for. */
    private static void mark(String document, boolean[] quoted, String quote) {
        int at = document.indexOf(quote);
        CHECK.is("in the document: " + quote, at >= 0, true);
        CHECK.is("once in the document: " + quote, document.lastIndexOf(quote) == at, true);
        for (int i = Math.max(0, at); i < Math.max(0, at) + quote.length() && at >= 0; i++) {
            quoted[i] = true;
        }
    }

    private static void lackNone(String document, boolean[] quoted, int from, int to) {
        CHECK.is("the document's parts are found", from > 0 && to > from, true);
        for (int i = Math.max(0, from); i < to; i++) {
            if (Character.isLetterOrDigit(document.charAt(i)) && !quoted[i]) {
                int end = i;
                while (end < to && !quoted[end]) {
                    end++;
                }
                CHECK.is("no test quotes: " + document.substring(i, end), false, true);
                i = end;
            }
        }
        CHECK.is("to the end", true, true);
    }
}
