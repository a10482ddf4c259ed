import java.io.IOException;
import java.nio.file.Files;
import java.nio.file.Path;
import java.util.LinkedHashSet;
import java.util.Set;

// The sentences of the document that tests say they are about. A quote that does not stand there is a wrong answer, so a
// test can't outlive its sentence.
final class Document {
    private static final Path TEXT = Path.of("../shared/DOC.md");
    private static final Set<String> quotes = new LinkedHashSet<>();
    private static String now = "";

    private Document() {}

    static void says(String sentence) {
        now = sentence;
        quotes.add(sentence);
    }

    static String now() {
        return now.isEmpty() ? "" : "\n    the document says: " + now;
    }

    private static String onOneLine(String text) {
        return text.replaceAll("\\s+", " ");
    }

    static void lookUpQuotes() {
        now = "";
        if (quotes.isEmpty()) return;
        if (!Files.isReadable(TEXT)) {
            System.out.println("no " + TEXT + " here: the quotes were not looked up");
            return;
        }
        try {
            String text = onOneLine(Files.readString(TEXT));
            for (String quote : quotes) Expect.yes("stands in the document: " + quote, text.contains(onOneLine(quote)));
        } catch (IOException e) {
            Expect.yes("the document can be read", false);
        }
    }
}
