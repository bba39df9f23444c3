import java.io.IOException;
import java.nio.file.Files;
import java.nio.file.Path;
import java.util.LinkedHashMap;
import java.util.List;
import java.util.Map;

/** The document's sections: each quote must stand in its own, and nothing that is promised may go without a quote. */
final class Document {
    private static final String CALLS = "Ahead of the calls";

    private final Map<String, String> sections = new LinkedHashMap<>();

    private Document(List<String> lines) {
        String heading = "";
        boolean code = false;
        for (String line : lines) {
            code ^= line.startsWith("```");
            if (!code && line.startsWith("#")) {
                heading = line.replaceAll("^#+ |(?<=Promise \\d{1,2}):.*", "");
            } else if (!code && !line.startsWith(CALLS)) {
                sections.merge(heading, plain(line), (before, more) -> before + "\n" + more);
            }
        }
    }

    static void compare(Path path, List<Edges.Quote> quotes) throws IOException {
        if (!Files.isReadable(path)) {
            System.out.println(path + " is not there: the quotes are not compared with it");
            return;
        }
        Document document = new Document(Files.readAllLines(path));
        Check.test("quotes", () -> quotes.forEach(document::findQuote));
        Check.test("sentences without a test", () -> document.findSentences(quotes));
    }

    /** Without the face of a promise, and without signs that only set the text. */
    private static String plain(String line) {
        return line.replaceAll("^`[^`]*\\)[^`]*`: |^- |`", "");
    }

    private void findQuote(Edges.Quote quote) {
        String text = sections.getOrDefault(quote.section(), "");
        Check.same(quote.section() + " has " + quote.sentence(), true, text.contains(quote.sentence()));
    }

    private void findSentences(List<Edges.Quote> quotes) {
        boolean terms = false;
        for (String section : sections.keySet()) {
            terms |= section.equals("Words");
            if (terms && !section.equals("Not promised")) {
                for (String sentence : sections.get(section).split("\n|(?<=[.;]) ")) {
                    findSentence(section, sentence.trim(), quotes);
                }
            }
        }
    }

    private static void findSentence(String section, String sentence, List<Edges.Quote> quotes) {
        if (sentence.isEmpty() || sentence.equals("Snapshots, undo")) {
            return;
        }
        String bare = sentence.replaceAll("[.;]$", "");
        boolean found = false;
        for (Edges.Quote quote : quotes) {
            found |= quote.section().equals(section)
                && (sentence.contains(quote.sentence()) || quote.sentence().contains(bare));
        }
        Check.same(section + ", \"" + sentence + "\" has a test", true, found);
    }
}
