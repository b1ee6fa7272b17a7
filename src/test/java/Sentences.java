import java.nio.charset.StandardCharsets;
import java.nio.file.Files;
import java.nio.file.Path;
import java.util.ArrayList;
import java.util.BitSet;
import java.util.List;

/** Tests that each name a promise and a sentence as the document tells it, and those sentences that no test names. */
final class Sentences {
    private static final int PROMISES = 35;
    private static final String LIMIT = "An object is used for at most 512 calls after it has been made; "
        + "what later calls answer is free.";

    /** What all calls lean on (0), and what is told of each promise. */
    private final String[] told = new String[PROMISES + 1];
    private final BitSet[] named = new BitSet[PROMISES + 1];
    private final BitSet promises = new BitSet();
    private final Check check = new Check("SentenceTest");
    private int promise;
    private String sentence = "";
    private int answers = 1;
    private int sentences = 0;

    Sentences(Path document) throws Exception {
        String doc = plain(Files.readString(document, StandardCharsets.UTF_8));
        told[0] = LIMIT + " " + between(doc, "## Terms", "Ahead of the calls").replace("text ", "");
        check.due(0, "the document has: " + LIMIT, doc.contains(LIMIT) ? 1 : 0, 1);
        for (int i = 1; i <= PROMISES; i++) {
            String all = between(doc, "## Promise " + i + ":", i < PROMISES ? "## Promise " + (i + 1) + ":" : "## Not promised");
            told[i] = all.substring(all.indexOf("): ") + 3);
        }
        for (int i = 0; i <= PROMISES; i++) {
            named[i] = new BitSet(told[i].length());
        }
    }

    private static String plain(String text) {
        return text.replace("`", "").replaceAll("={4,} [0-9]", " ").replaceAll("\\s+", " ");
    }

    private static String between(String text, String first, String last) {
        int from = text.indexOf(first) + first.length();
        return text.substring(from, text.indexOf(last, from)).trim();
    }

    /** A test of a sentence that stands with the promise itself. */
    void of(int number, String words) {
        begin(number, number, words);
    }

    /** A test of a sentence that stands in the terms, by the calls of this promise. */
    void terms(int number, String words) {
        begin(0, number, words);
    }

    private void begin(int where, int number, String words) {
        check.due(promise, "a test of \"" + sentence + "\" asks something", answers > 0 ? 1 : 0, 1);
        promise = number;
        sentence = words;
        answers = 0;
        sentences++;
        promises.set(number);
        int at = told[where].indexOf(words);
        check.due(number, "the document has \"" + words + "\"", at >= 0 ? 1 : 0, 1);
        for (int next = at; next >= 0; next = told[where].indexOf(words, next + 1)) {
            named[where].set(next, next + words.length());
        }
    }

    void due(String call, long got, long want) {
        answers++;
        check.due(promise, "\"" + sentence + "\": " + call, got, want);
    }

    /** Whether both objects answer alike from here on, though one of them had this call, too. */
    void unchanged(String call, Twins.Use before, Twins.Use more) {
        String other = Twins.otherThan(before, more);
        if (other != null) {
            System.out.println("behind " + call + ": " + other);
        }
        due("behind " + call + " all is as it was", other == null ? 1 : 0, 1);
    }

    void end() {
        for (int i = 0; i <= PROMISES; i++) {
            List<String> left = leftOut(i);
            check.due(i, "sentences that no test names: " + left, left.size(), 0);
            check.due(i, "the promise has a test", i == 0 || promises.get(i) ? 1 : 0, 1);
        }
        System.out.println("SentenceTest: " + sentences + " sentences");
        check.end();
    }

    private List<String> leftOut(int where) {
        List<String> left = new ArrayList<>();
        int at = 0;
        while (at < told[where].length()) {
            int from = named[where].nextClearBit(at);
            int to = named[where].nextSetBit(from);
            to = to < 0 ? told[where].length() : to;
            String words = from < to ? told[where].substring(from, to) : "";
            if (words.matches(".*[A-Za-z0-9].*")) {
                left.add(words);
            }
            at = Math.max(to, from + 1);
        }
        return left;
    }
}
