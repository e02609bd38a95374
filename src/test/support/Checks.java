import java.io.IOException;
import java.nio.file.Files;
import java.nio.file.Path;

/** What the tests share: an answer held against the one that is due, and texts told letter by letter. */
final class Checks {
    private static final Path DOCUMENT = Path.of("../shared/DOC.md");

    private int wrong;
    private int asked;
    private String document;
    private String said = "";

    void due(String call, long got, long want) {
        asked++;
        if (got != want) {
            wrong++;
            System.out.println(said + call + " answered " + got + ", due is " + want);
        }
    }

    void holds(String what, boolean so) {
        due(what, so ? 1 : 0, 1);
    }

    /** The document's own words, against which the answers that follow are held. */
    void says(String words) {
        if (document == null) {
            document = readDocument();
        }
        said = "";
        holds("'" + words + "' stands in the document", document.contains(words));
        said = "'" + words + "': ";
    }

    private static String readDocument() {
        try {
            return Files.readString(DOCUMENT);
        } catch (IOException e) {
            System.out.println(DOCUMENT + " can't be read: " + e.getMessage());
            return "";
        }
    }

    /** A text of so many items, or with its fault (-10 less its place), on a new object. */
    void reads(String text, int want) {
        GrazedNames x = new GrazedNames();
        tell(x, text);
        due("meadow() of '" + text + "'", x.meadow(), want);
        due("letters left of '" + text + "'", x.count(7), want >= 0 ? 0 : text.length());
    }

    /** The fault stands where the bar is. */
    void fault(String text) {
        int place = text.indexOf('|');
        reads(text.substring(0, place) + text.substring(place + 1), -10 - place);
    }

    /** Ends the program: with exit code 1 if an answer was not as due. */
    void end() {
        System.out.println(asked + " answers, " + wrong + " of them not as due");
        System.exit(wrong == 0 ? 0 : 1);
    }

    static void tell(GrazedNames x, String text) {
        for (int i = 0; i < text.length(); i++) {
            x.type(text.charAt(i));
        }
    }

    /** A new object that has read a text. */
    static GrazedNames meadowOf(String text) {
        GrazedNames x = new GrazedNames();
        tell(x, text);
        x.meadow();
        return x;
    }

    /** So many months go by, each with the draw 0. */
    static void months(GrazedNames x, int n) {
        for (int i = 0; i < n; i++) {
            x.month(0);
        }
    }
}
