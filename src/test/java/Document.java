import java.io.IOException;
import java.nio.file.Files;
import java.nio.file.Path;
import java.util.ArrayList;
import java.util.Arrays;
import java.util.List;
import java.util.regex.Matcher;
import java.util.regex.Pattern;

/**
 * ../shared/DOC.md and which of its words the tests of the edges quote. A quote that the document does not have, words
 * of it that nobody quotes, and a promise without a test for a term that it uses are all told as wrong.
 */
final class Document {
    static final int PROMISES = 29;
    static final String REFUSED = "What is refused changes nothing.";
    private static final Path FILE = Path.of("../shared/DOC.md");

    /** What says nothing that could hold or not: the headings, a promise's signature, and words that join. */
    private static final Pattern SILENT = Pattern.compile("## (?:What it is|The public face|Terms)|"
        + "## Promise \\d+: (?:A new object|\\w+) `[^`]*`:|======== \\d|, each with |, and |[^\\w-]");

    /** Terms that name a boundary: the word, as promises use it, and the quote that stands for it. */
    private static final String[][] TERMS = {
        {"TICK", Edges.TICK}, {"WRITERS?", Edges.WRITERS}, {"POSTS?", Edges.POSTS}, {"REACH", Edges.REACH},
        {"MARKS", Edges.MARKS}, {"RULES?", Edges.RULES}, {"GRADES?", Edges.GRADE}, {"HARM", Edges.HARM},
        {"FOLLOWS", Edges.FOLLOWS}, {"CASES?", Edges.CASES}, {"STATES?", Edges.STATES}, {"JUDGES?", Edges.JUDGES},
        {"SKILLS", Edges.SKILLS}, {"KIN", Edges.KIN}, {"LOAD", Edges.LOAD}, {"WEIGHT", Edges.WEIGHT},
        {"RESTS?", Edges.REST}, {"ASKS", Edges.ASKS}, {"APPEALED", Edges.APPEALED}, {"GIFTS?", Edges.GIFT},
        {"MAY", Edges.MAY_ASKS}, {"MAY", Edges.MAY_JUDGE}, {"NEXT", Edges.NEXT}, {"FADE", Edges.FADE},
        {"QUIET", Edges.QUIET}, {"STRIKES?", Edges.FADE}, {"SILENT", Edges.QUIET}, {"LEVEL", Edges.LEVEL},
        {"GONE", Edges.GONE}, {"HIDDEN", Edges.HIDDEN}, {"WARNED", Edges.WARNED}, {"LIMIT", Edges.LIMIT},
        {"DOUBT", Edges.DOUBT}, {"LIKE", Edges.LIKE}, {"LATE", Edges.LATE}, {"DUE", Edges.DUE}};

    private final boolean there;
    /** By promise; 0 is what stands ahead of the promises. */
    private final String[] sections = new String[PROMISES + 1];
    private final boolean[][] quoted = new boolean[PROMISES + 1][];
    private final List<String> claims = new ArrayList<>();

    Document() throws IOException {
        there = Files.isReadable(FILE);
        if (!there) {
            System.out.println(FILE + " is not there: quotes are not looked up");
            return;
        }
        String text = Files.readString(FILE);
        for (int p = 0; p <= PROMISES; p++) {
            int from = p == 0 ? text.indexOf("## What it is") : text.indexOf("## Promise " + p + ":");
            int to = p == PROMISES ? text.indexOf("## Not promised") : text.indexOf("## Promise " + (p + 1) + ":");
            String face = "(?s)```java.*?```";
            sections[p] = text.substring(from, to).replaceAll(face, " ").replaceAll("\\s+", " ");
            quoted[p] = new boolean[sections[p].length()];
        }
    }

    /** This promise is tested for these words, which stand under its own heading or ahead of the promises. */
    void claim(int promise, String words) {
        claims.add(promise + " " + words);
        if (!there) {
            return;
        }
        int section = sections[promise].contains(words) ? promise : 0;
        int at = sections[section].indexOf(words);
        Due.holds("promise " + promise + ": the document says \"" + words + "\"", at >= 0);
        if (at >= 0) {
            Due.holds("it says \"" + words + "\" once there", sections[section].indexOf(words, at + 1) < 0);
            Arrays.fill(quoted[section], at, at + words.length(), true);
        }
    }

    /** What stands behind the last promise promises nothing, so it is no section. */
    void everySentenceIsQuoted() {
        for (int p = 0; there && p <= PROMISES; p++) {
            for (Matcher found = SILENT.matcher(sections[p]); found.find(); ) {
                Arrays.fill(quoted[p], found.start(), found.end(), true);
            }
            StringBuilder left = new StringBuilder();
            for (int i = 0; i < quoted[p].length; i++) {
                left.append(quoted[p][i] ? ' ' : sections[p].charAt(i));
            }
            Due.holds("section " + p + ": no test quotes these words: " + left.toString().replaceAll(" +", " "),
                left.toString().isBlank());
        }
    }

    /** A boundary case that is named under Terms counts for every promise that uses that word. */
    void everyTermIsTestedWhereItIsUsed() {
        for (int p = 1; there && p <= PROMISES; p++) {
            String used = withArgumentsAsTerms(sections[p]);
            for (String[] term : TERMS) {
                if (Pattern.compile("\\b" + term[0] + "\\b").matcher(used).find()) {
                    Due.holds("promise " + p + " uses " + term[0] + ": a test of it quotes \"" + term[1] + "\"",
                        claims.contains(p + " " + term[1]));
                }
            }
            if (Pattern.compile("\\b(NONE|FULL|NOT)\\b|-5").matcher(sections[p]).find()) {
                Due.holds("promise " + p + ": a call of it is refused in a test", claims.contains(p + " " + REFUSED));
            }
        }
    }

    private static String withArgumentsAsTerms(String section) {
        int from = section.indexOf('`');
        int to = section.indexOf('`', from + 1);
        String call = section.substring(from, to).replaceAll("\\bint c\\b", "CASE").toUpperCase();
        return call + section.substring(to);
    }
}
