import java.io.IOException;
import java.nio.file.Files;
import java.nio.file.Path;
import java.util.ArrayList;
import java.util.List;
import java.util.regex.Matcher;
import java.util.regex.Pattern;

/** The document's opening sentence, piece by piece, what posts and cases are, and what it says of memory and the face. */
final class OpeningEdges extends Edges {
    private static final String STRIKES = BENCH + "rule(0, 0, 1, 2);";
    private static final String THREE = BENCH + "rule(0, 1, 1, 0);" + opened(0, 0, 0);

    private OpeningEdges() {
    }

    static void all() throws IOException {
        opening();
        whatFollows();
        postsAndCases();
        ownMemory();
        sections();
    }

    private static void opening() {
        edge(8, "A bench of moderators: posts that are complained of become cases", "post(0, 1, 0) = 0; post(0, 1, 0) = 1;",
            "count(1) = 0; complain(1, 0) = 0; count(1) = 1; count(2) = 1; about(0, 0) = 1; about(0, 2) = 0");
        edge(18, "judges who don't see one another vote", THREE, each(0, 2, "give(#) = 0;"), each(0, 2, "judged(0, #) = -4;"),
            "about(0, 2) = 0; about(0, 4) = 3; about(0, 7) = 0; vote(0, 0, 1) = 0; vote(1, 0, 0) = 0;",
            each(0, 2, "judged(0, #) = -4;"), "about(0, 2) = 0; about(0, 4) = 3; about(0, 7) = 0; told(0, 7) = 0; told(1, 7) = 0");
        edge(15, "weights agree or more are asked", THREE, "judge(0, 255, 20, 3);", votes(0, 0, "GNN", 0), "about(0, 4) = 5;",
            votes(0, 3, "GG", 2), "judged(0, 0) = 5; judged(0, 1) = 5; judged(0, 2) = 2");
        edge(20, "appeals go to others and their word is last", THREE, votes(0, 0, "GGG", 2), "appeal(0) = 1;",
            each(0, 2, "may(#, 0) = 0; next(#) = -4;"), each(3, 7, "may(#, 0) = 1;"), votes(0, 3, "NNNNN", 4),
            "appeal(0) = -4; complain(0, 0) = 0; about(0, 2) = 4;", each(0, 19, "may(#, 0) = 0;"));
        edge(17, "judges are doubted by how often they stand alone", THREE, votes(0, 0, "GGN", 2), "told(0, 7) = 0;",
            "told(1, 7) = 0; told(2, 7) = 1;", opened(1, 0, 0), votes(1, 0, "NNG", 1), "told(0, 7) = 0; told(2, 7) = 2; told(2, 6) = 2");
    }

    private static void whatFollows() {
        edge(26, "what follows hangs on what held when the post was written", STRIKES, "ladder(5, 1);", opened(0, 0, 0),
            "tick(4);", opened(1, 0, 0), "tick(1);", opened(2, 0, 0), "tick(100);", votes(2, 0, "G", 2), "level(2) = 0;",
            votes(1, 0, "G", 2), "level(2) = 1; level(1) = 0;", votes(0, 0, "G", 2), "level(0) = 0; level(1) = 1; level(2) = 1");
        edge(25, "strikes fade", STRIKES, "ladder(5, 1); tick(3);", guilty(0, 0, 0), "writer(0, 0) = 1; tick(4);",
            "writer(0, 0) = 1; tick(1); writer(0, 0) = 0; writer(0, 3) = 1; writer(0, 5) = 1");
    }

    private static void postsAndCases() {
        edge(7, "POSTS 0 .. 299, as they came: a WRITER, the TICK at which it came, a REACH", STRIKES, "ladder(10, 1); tick(6);",
            opened(0, 5, 0), "tick(7);", opened(1, 4, 0), votes(1, 0, "G", 2), votes(0, 0, "G", 2), "writer(5, 4) = 1;",
            "tick(2); writer(5, 0) = 1; tick(1); writer(5, 0) = 0; tick(6); writer(4, 0) = 1; tick(1); writer(4, 0) = 0");
        edge(8, "as they came: a POST and a RULE (there is one case at most of these two), the TICK at which it came, "
            + "COMPLAINTS (how many).", "post(0, 1, 0) = 0; post(0, 1, 0) = 1; tick(3); complain(1, 6) = 0; about(0, 0) = 1;",
            "about(0, 1) = 6; about(0, 3) = 1; tick(4); complain(1, 6) = 0; about(0, 3) = 2; tick(6); about(0, 6) = 0; tick(1);",
            "about(0, 6) = 1; complain(1, 6) = 0; about(0, 3) = 3; about(0, 6) = 1; complain(0, 6) = 1; about(1, 6) = 0");
    }

    /** Two objects side by side: what is called of the one is not seen in the other. */
    private static void ownMemory() {
        claim(1, "All memory is the class's own.");
        ModeratorsBench untouched = new ModeratorsBench();
        ModeratorsBench used = Due.fullBench();
        used.rule(0, 0, 9, 2);
        used.ladder(1, 1);
        used.due(0, 1);
        used.limit(0);
        used.kin(3, 3, 1);
        used.rest(4, 1);
        used.tick(5);
        Due.judgedCase(used, 0, 0, 1);
        Due.newCase(used, 1, 1);
        used.give(0);
        for (int what = 0; what < 6; what++) {
            Due.is("promise 1: count(" + what + ") of an object beside one that is used", untouched.count(what), 0);
        }
        Due.is("promise 1: due(0, 10) of the other object", untouched.due(0, 10), 10);
        Due.is("promise 1: limit(100) of the other object", untouched.limit(100), 100);
        Due.is("promise 1: kin(3, 3, 0) of the other object", untouched.kin(3, 3, 0), 0);
        Due.is("promise 1: rest(4, 0) of the other object", untouched.rest(4, 0), 0);
        Due.is("promise 1: told(0, 0) of the other object", untouched.told(0, 0), 0);
        Due.is("promise 1: undo() of the other object", untouched.undo(), -4);
        Due.is("promise 1: writer(0, 3) of the used object", used.writer(0, 3), 1);
    }

    private static void sections() throws IOException {
        section(9, "judges", "judge", "kin", "rest", "next", "give", "undo", "vote", "may", "told");
        section(18, "cases", "about", "judged", "appeal", "known", "late", "like", "unlike");
        section(25, "writers", "writer", "level", "hidden", "count", "check");
    }

    /** The calls stand in the source behind these words, in this order, and no other public one does. */
    private static void section(int promise, String heading, String... calls) throws IOException {
        claim(promise, "Ahead of the calls `" + String.join("`, `", calls) + "` the interface says: ---- " + heading + ".");
        String source = Files.readString(Path.of("src/main/java/ModeratorsBench.java"));
        int from = source.indexOf("// ---- " + heading + "\n");
        Due.holds("the source says ---- " + heading, from >= 0);
        String behind = source.substring(from + 3);
        String part = behind.substring(0, behind.indexOf("// ---- "));
        List<String> found = new ArrayList<>();
        for (Matcher call = Pattern.compile("public int (\\w+)\\(").matcher(part); call.find(); ) {
            found.add(call.group(1));
        }
        Due.holds("behind ---- " + heading + " stand " + found, found.equals(List.of(calls)));
    }
}
