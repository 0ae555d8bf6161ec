import java.io.IOException;
import java.nio.file.Files;
import java.nio.file.Path;
import java.util.ArrayList;
import java.util.List;
import java.util.Map;
import java.util.TreeMap;

/**
 * Which sentence of the document is tried, and whether every sentence was: each test of an edge begins with the words
 * that it tries. At the end all words of the Terms and of the promises must have been tried, or be told to name no edge.
 */
final class Edge {
    static final int NONE = -1, BAD = -2, STATE = -3, FULL = -4, UNMET = -5, NO_NUMBER = -10001;
    static final int NOTHING = -11, CAST = -12, PLACE = -13, SIZE = -14;
    static final long NO = Long.MIN_VALUE;
    /** The section of the Terms; the promises are sections by their numbers. */
    static final int TERMS = 0;
    static final int PROMISES = 34;

    private static final Path DOCUMENT = Path.of("../shared/DOC.md");
    private static final Map<Integer, List<String>> TOLD = new TreeMap<>();
    private static int section = -1;
    private static String words = "";
    private static int askedOfWords = 1;
    private static int asked = 0;
    private static int wrong = 0;

    private Edge() {
    }

    /** What follows tries these words of the document. */
    static void of(int newSection, String newWords) {
        endOfWords();
        section = newSection;
        words = newWords;
        askedOfWords = 0;
        tell(newSection, newWords);
    }

    /** These words name no edge: what they say is tried elsewhere. */
    static void none(int newSection, String newWords) {
        tell(newSection, newWords);
    }

    private static void tell(int newSection, String newWords) {
        TOLD.computeIfAbsent(newSection, s -> new ArrayList<>()).add(newWords);
    }

    private static void endOfWords() {
        if (askedOfWords == 0) {
            fault("nothing was asked");
        }
    }

    static void due(String call, long got, long want) {
        asked++;
        askedOfWords++;
        if (got != want) {
            fault(call + " answered " + got + ", due is " + want);
        }
    }

    private static void fault(String what) {
        wrong++;
        System.out.println((section == TERMS ? "Terms" : "promise " + section) + ", \"" + words + "\": " + what);
    }

    /** Ends the test: with exit code 1 if an answer was wrong, or words were left out. */
    static void end() throws IOException {
        endOfWords();
        if (Files.exists(DOCUMENT)) {
            everyWord(Files.readString(DOCUMENT));
        } else {
            System.out.println("no document at " + DOCUMENT + ": which words were tried is not looked at");
        }
        System.out.println(asked + " answers asked of edges, " + wrong + " wrong");
        if (wrong != 0 || asked == 0) {
            System.exit(1);
        }
    }

    private static void everyWord(String document) {
        everyWord(TERMS, between(document, "## Terms\n", "The constants:").replace("```text", ""));
        for (int p = 1; p <= PROMISES; p++) {
            String last = p == PROMISES ? "## Not promised" : "## Promise " + (p + 1) + ":";
            String text = between(document, "## Promise " + p + ":", last);
            everyWord(p, text.substring(text.indexOf("`: ") + 3));
        }
    }

    private static String between(String document, String from, String to) {
        int start = document.indexOf(from) + from.length();
        return document.substring(start, document.indexOf(to, start));
    }

    private static void everyWord(int newSection, String text) {
        section = newSection;
        StringBuilder left = new StringBuilder(text);
        for (String told : TOLD.getOrDefault(newSection, List.of())) {
            words = told;
            int at = text.indexOf(told);
            if (at < 0) {
                fault("these words don't stand there");
            }
            for (int i = Math.max(at, 0); i < at + told.length(); i++) {
                left.setCharAt(i, '\n');
            }
        }
        for (String piece : left.toString().split("\n+")) {
            words = piece.trim();
            if (words.chars().anyMatch(Character::isLetterOrDigit)) {
                fault("these words were not tried");
            }
        }
    }
}
