import java.util.Map;
import java.util.TreeMap;
import java.util.regex.Matcher;
import java.util.regex.Pattern;

/**
 * The runs of EdgeTest, each under the words of the document that it holds the class to. Words that do not stand there
 * are a fault, and so is a number, BAD, STATE, FULL or NONE of the document that stands in no words with a run.
 */
final class Edges {
    static final int TERMS = 0;
    private static final Pattern EDGE = Pattern.compile("[0-9]+|BAD|STATE|FULL|NONE");

    private final Due due = new Due();
    private final Map<Integer, String> told = new TreeMap<>();
    private final Map<Integer, boolean[]> quoted = new TreeMap<>();

    Edges(String document) {
        put(TERMS, between(document, "## What it is", "## The public face")
                + between(document, "## Terms", "Ahead of the calls `feed`").replaceAll("======== [0-9]", " "));
        for (int promise = 1; promise <= 43; promise++) {
            String next = promise < 43 ? "## Promise " + (promise + 1) + ":" : "## Not promised";
            String section = between(document, "## Promise " + promise + ":", next);
            put(promise, section.substring(section.indexOf("`:") + 2));
        }
    }

    private static String between(String document, String first, String behind) {
        int from = document.indexOf(first) + first.length();
        return document.substring(from, document.indexOf(behind, from));
    }

    private void put(int promise, String words) {
        String plain = words.replaceAll("\\s+", " ").trim();
        told.put(promise, plain);
        quoted.put(promise, new boolean[plain.length()]);
    }

    /** A run under words of a promise (TERMS: of what stands ahead of them all). */
    Run at(int promise, String words) {
        int from = told.get(promise).indexOf(words);
        String name = (promise == TERMS ? "Terms" : "P" + promise) + " \"" + words + "\"";
        due.is("these words stand there: " + name, from < 0 ? 0 : 1, 1);
        for (int i = 0; from >= 0 && i < words.length(); i++) {
            quoted.get(promise)[from + i] = true;
        }
        return new Run(due, name);
    }

    void end() {
        for (int promise : told.keySet()) {
            Matcher m = EDGE.matcher(told.get(promise));
            while (m.find()) {
                boolean has = quoted.get(promise)[m.start()];
                due.is("promise " + promise + " has a run for its " + m.group() + " at " + m.start(), has ? 1 : 0, 1);
            }
        }
        due.end("EdgeTest");
    }
}
