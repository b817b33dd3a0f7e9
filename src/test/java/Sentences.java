import java.io.IOException;
import java.nio.file.Files;
import java.nio.file.Path;
import java.util.Set;
import java.util.TreeSet;

/** The document's sentences that tests name; one that isn't there is itself a wrong answer. */
final class Sentences {
    private static final String[] TERMS = {"I", "II", "III", "IV", "V", "VI", "VII", "VIII"};
    private static final int PROMISES = 48;

    private final Check check;
    private final String doc;
    private final Set<String> named = new TreeSet<>();

    Sentences(Check check, Path file) throws IOException {
        this.check = check;
        doc = Files.readString(file);
    }

    void promise(int number, String quote) {
        name("promise " + number, between("\n## Promise " + number + ":", "\n## "), quote);
    }

    void term(String number, String quote) {
        String next = "\n## Promise 1:";
        for (int i = 0; i + 1 < TERMS.length; i++) {
            next = TERMS[i].equals(number) ? "\n" + TERMS[i + 1] + ". " : next;
        }
        name("term " + number, between("\n" + number + ". ", next), quote);
    }

    private String between(String begin, String end) {
        int from = doc.indexOf(begin);
        int to = from < 0 ? -1 : doc.indexOf(end, from + begin.length());
        if (from < 0) {
            return "";
        }
        return doc.substring(from, to < 0 ? doc.length() : to).replaceAll("\\s+", " ");
    }

    private void name(String place, String section, String quote) {
        named.add(place);
        check.part(place + ", \"" + quote + "\"");
        check.yes("the document says so", section.contains(quote));
    }

    void allWereNamed() {
        check.part("the document");
        for (int i = 1; i <= PROMISES; i++) {
            check.yes("a test names promise " + i, named.contains("promise " + i));
        }
        for (String term : TERMS) {
            check.yes("a test names term " + term, named.contains("term " + term));
        }
        check.no("a promise 49", doc.contains("## Promise 49"));
    }
}
