import java.io.IOException;
import java.nio.file.Files;
import java.nio.file.Path;
import java.util.ArrayList;
import java.util.List;
import java.util.regex.Matcher;
import java.util.regex.Pattern;

/**
 * Tests of single sentences of the document. Each test quotes what it tests; a quote that does not stand in its
 * section, and a sentence of which no test quotes anything, are faults, so that none is forgotten.
 */
final class Edges {
    static final int TERMS = 0;

    private static final Path DOCUMENT = Path.of("../shared/DOC.md");

    private final String name;
    private final String[] sections = new String[45];
    private final List<List<String>> quotes = new ArrayList<>();

    Edges(String name) throws IOException {
        this.name = name;
        String document = Files.readString(DOCUMENT);
        for (int promise = TERMS; promise < sections.length; promise++) {
            quotes.add(new ArrayList<>());
            sections[promise] = section(document, promise == TERMS ? "Terms" : "Promise " + promise + ": \\w[^\n]*");
        }
    }

    private static String section(String document, String heading) {
        Matcher m = Pattern.compile("(?s)\n## " + heading + "\n(.*?)(?=\n## |\nAhead of the calls)").matcher(document);
        Check.yes("the document has " + heading, m.find());
        return plain(m.group(1));
    }

    private static String plain(String text) {
        return text.replaceAll("(?m)^\\d+\\. ", "").replace("```text", " ").replace("```", " ").replaceAll("\\s+", " ").trim();
    }

    /** A test of what a promise (or TERMS) says by these words. */
    Edges test(int promise, String quote, Runnable test) {
        quoted(promise, quote);
        int before = Check.wrongs();
        test.run();
        if (Check.wrongs() > before) {
            System.out.println("    so this does not hold, of " + promise + ": " + quote);
        }
        return this;
    }

    /** Words that name no boundary case, or one that other tests of this promise have. */
    Edges noEdge(int promise, String quote) {
        quoted(promise, quote);
        return this;
    }

    private void quoted(int promise, String quote) {
        Check.yes("promise " + promise + " says: " + quote, sections[promise].contains(quote));
        quotes.get(promise).add(quote);
    }

    /** Every sentence of these promises is quoted. */
    void finish(int first, int last) {
        for (int promise = first; promise <= last; promise++) {
            int start = 0;
            Matcher stop = Pattern.compile("(?<!\\.)\\.(?=\\)?( |$))").matcher(sections[promise]);
            while (stop.find()) {
                Check.yes("no test of promise " + promise + " quotes: " + sections[promise].substring(start, stop.end()),
                    isQuoted(promise, start, stop.end()));
                start = stop.end();
            }
        }
        Check.finish(name);
    }

    private boolean isQuoted(int promise, int from, int to) {
        for (String quote : quotes.get(promise)) {
            int at = sections[promise].indexOf(quote);
            if (at >= 0 && at < to && at + quote.length() > from) {
                return true;
            }
        }
        return false;
    }
}
