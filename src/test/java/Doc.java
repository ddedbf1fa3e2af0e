import java.io.IOException;
import java.nio.file.Files;
import java.nio.file.Path;
import java.util.Map;
import java.util.TreeMap;

/** The document's own words: a test of a sentence quotes it, and no sentence may be left without a test. */
final class Doc {
    private static final String FILE = "../shared/DOC.md";
    private static final Map<String, String> PARTS = new TreeMap<>();
    private static final Map<String, boolean[]> TOLD = new TreeMap<>();

    private Doc() {
    }

    /** Cuts the document into how long an object is used, its terms (0 to 6) and promises (1 to 36), each on one line. */
    static void read() throws IOException {
        String all = Files.readString(Path.of(FILE));
        int firstPromise = all.indexOf("## Promise 1:");
        put("what it is", all.substring(all.indexOf("An object is used"), all.indexOf("## The public face")));
        String[] sections = all.substring(all.indexOf("## Terms") + 8, firstPromise).split("==== \\d\\. ");
        for (int i = 0; i < sections.length; i++) {
            put("terms " + i, sections[i].replaceAll("```\\w*", ""));
        }
        String[] promises = all.substring(firstPromise, all.indexOf("## Not promised")).split("## Promise \\d+: ");
        for (int i = 1; i < promises.length; i++) {
            put("promise " + i, promises[i].substring(promises[i].indexOf("`: ") + 3));
        }
        Check.due("parts of the document", PARTS.size(), 1 + 7 + 36);
    }

    private static void put(String name, String text) {
        String line = text.replaceAll("\\s+", " ").strip();
        PARTS.put(name, line);
        TOLD.put(name, new boolean[line.length()]);
    }

    /** What is asked from now on belongs to these words of the beginning. */
    static void whatItIs(String quote) {
        tell("what it is", quote);
    }

    /** What is asked from now on belongs to these words of a section of the terms. */
    static void terms(int section, String quote) {
        tell("terms " + section, quote);
    }

    /** What is asked from now on belongs to these words of a promise. */
    static void promise(int number, String quote) {
        tell("promise " + number, quote);
    }

    private static void tell(String name, String quote) {
        Check.about(name + ": " + quote);
        String text = PARTS.getOrDefault(name, "");
        int from = text.indexOf(quote);
        Check.holds("the document says so", from >= 0);
        for (int i = from; i >= 0 && i < from + quote.length(); i++) {
            TOLD.get(name)[i] = true;
        }
    }

    /** No words of these parts are left that no test has quoted. */
    static void allTold() {
        Check.about("the whole document");
        for (String name : PARTS.keySet()) {
            String left = untold(PARTS.get(name), TOLD.get(name));
            Check.holds(name + " is told whole; not told: " + left, left.isEmpty());
        }
    }

    private static String untold(String text, boolean[] told) {
        StringBuilder left = new StringBuilder();
        for (int i = 0; i < text.length(); i++) {
            left.append(told[i] ? '|' : text.charAt(i));
        }
        return left.toString().replaceAll("\\|+", " | ").replaceAll("^[ |]+|[ |]+$", "").strip();
    }
}
