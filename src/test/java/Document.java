import java.io.IOException;
import java.io.UncheckedIOException;
import java.nio.file.Files;
import java.nio.file.Path;
import java.util.LinkedHashMap;
import java.util.Map;
import java.util.regex.Matcher;
import java.util.regex.Pattern;

/**
 * The document in its places: "Terms", the sections "1", "2", "3", and "Promise 1" to "Promise 33".
 * The tests of boundary cases quote it word for word, so that it can be seen what none of them looks at.
 */
final class Document {
    private static final Path PATH = Path.of("../shared/DOC.md");
    /** What a boundary case is told with. */
    private static final Pattern BOUNDARY = Pattern.compile("UNKNOWN|OUTSIDE|\\bNOT\\b|FULL|NONE|\\d+ \\.\\. \\d+"
        + "|\\bat most\\b|\\bat least\\b|\\bat first\\b|\\bempty\\b|\\bcuts?\\b|\\bof like\\b|\\bwithout\\b|\\b[Nn]othing\\b"
        + "|\\bnobody\\b|(?<!they come )\\bfirst\\b|\\bleft\\b|\\brefused\\b|\\bFAULT\\b|\\bno EVENING\\b|\\bNo EVENING\\b|\\(\\d+\\)");

    private static final Map<String, String> PLACES = places();
    private static final Map<String, boolean[]> QUOTED = new LinkedHashMap<>();
    private static String latest = "";
    private static int madeAhead = -1;

    private Document() {
    }

    private static Map<String, String> places() {
        String all;
        try {
            all = Files.readString(PATH).replace("```text", "").replace("```", "").replaceAll("\\s+", " ");
        } catch (IOException e) {
            throw new UncheckedIOException(e);
        }
        Map<String, String> places = new LinkedHashMap<>();
        places.put("Terms", between(all, "## Terms ", "======== 1 "));
        places.put("1", between(all, "======== 1 ", "======== 2 "));
        places.put("2", between(all, "======== 2 ", "======== 3 "));
        places.put("3", between(all, "======== 3 ", "Ahead of the calls "));
        for (int n = 1; n <= 33; n++) {
            places.put("Promise " + n, between(all, "## Promise " + n + ": ", n < 33 ? "## Promise " + (n + 1) + ": " : "## Not promised"));
        }
        return places;
    }

    private static String between(String all, String from, String to) {
        int start = all.indexOf(from);
        int end = all.indexOf(to, start + from.length());
        if (start < 0 || end < 0) {
            throw new IllegalStateException("no '" + from + "' or '" + to + "' in the document");
        }
        return all.substring(start + from.length(), end);
    }

    /** The checks from here on are those of a sentence, which must stand there word for word. */
    static void says(String place, String words) {
        endOfSentence();
        latest = place + ", \"" + words + "\"";
        Check.about(latest);
        String text = PLACES.getOrDefault(place, "");
        boolean[] quoted = QUOTED.computeIfAbsent(place, p -> new boolean[text.length()]);
        int at = text.indexOf(words);
        Check.holds("the document says so", at >= 0);
        for (int from = at; from >= 0; from = text.indexOf(words, from + 1)) {
            for (int i = from; i < from + words.length(); i++) {
                quoted[i] = true;
            }
        }
        madeAhead = Check.made();
    }

    private static void endOfSentence() {
        if (madeAhead >= 0) {
            Check.holds("it was looked at", Check.made() > madeAhead);
        }
        madeAhead = -1;
    }

    /** Each word of a boundary case must stand in a sentence that was quoted. */
    static void isCovered() {
        endOfSentence();
        for (Map.Entry<String, String> place : PLACES.entrySet()) {
            Check.about(place.getKey());
            boolean[] quoted = QUOTED.getOrDefault(place.getKey(), new boolean[place.getValue().length()]);
            Matcher m = BOUNDARY.matcher(place.getValue());
            while (m.find()) {
                int end = Math.min(place.getValue().length(), m.end() + 30);
                Check.holds("a test of \"" + place.getValue().substring(Math.max(0, m.start() - 30), end) + "\"", quoted[m.start()]);
            }
        }
        Check.about("the document");
    }
}
