/**
 * What the tests of the edges share: the sentences of the document's terms that name a boundary, by the word that
 * promises use, and pieces of runs. In all of them post n has case n, and a reach that grows with n, so that the
 * latest case is the next one.
 */
abstract class Edges {
    static final String TICK = "THE TICK is a count, 0 at first.";
    static final String WRITERS = "WRITERS 0 .. 39.";
    static final String POSTS = "POSTS 0 .. 299, as they came";
    static final String REACH = "a REACH (1 .. 1000)";
    static final String MARKS = "MARKS (0 .. 255, eight of them as bits)";
    static final String RULES = "RULES 0 .. 7";
    static final String GRADE = "a GRADE (0, 1, 2; 0 at first)";
    static final String HARM = "a HARM (1 .. 100; 1 at first)";
    static final String FOLLOWS = "what FOLLOWS: 0 HIDDEN (at first), 1 WARNED, 2 STRIKE.";
    static final String CASES = "CASES 0 .. 399, as they came";
    static final String ONE_CASE = "(there is one case at most of these two)";
    static final String STATES = "STATES of a CASE: 0 OPEN, 1 CLEARED, 2 GUILTY, 3 APPEALED (OPEN once more), "
        + "4 CLEARED for good, 5 GUILTY for good (behind an appeal).";
    static final String JUDGES = "JUDGES 0 .. 19";
    static final String SKILLS = "SKILLS (RULES of which they may judge, as bits; none at first)";
    static final String KIN = "KIN (WRITERS whom they may not judge; none)";
    static final String LOAD = "LOAD (how many GIFTS they may have at once; 2 at first)";
    static final String WEIGHT = "WEIGHT (1 .. 10; 1 at first)";
    static final String REST = "whether they REST (not at first)";
    static final String ASKS = "A CASE that is OPEN or APPEALED ASKS for so many VOTES: 1, 3, 5 by the GRADE that its "
        + "RULE had when it came";
    static final String APPEALED = "when it is APPEALED 2 more than it ASKED for at last, at most 9, of which none is "
        + "there yet";
    static final String GIFT = "A GIFT is a CASE that a JUDGE has and did not vote on yet.";
    static final String MAY_STATE = "A JUDGE MAY have a CASE if it is OPEN or APPEALED";
    static final String MAY_ASKS = "it ASKS for more than its VOTES (of this time) and GIFTS together";
    static final String MAY_RULE = "its RULE is among the SKILLS, the WRITER of its POST is no KIN";
    static final String MAY_JUDGE = "the JUDGE has it not as a GIFT and never voted on it, does not REST, and has fewer "
        + "GIFTS than LOAD.";
    static final String NEXT = "NEXT of a JUDGE: of the CASES that it MAY have, the one with the greatest HARM (its "
        + "RULE's, now) times REACH; of several the one that came first.";
    static final String FADE = "a STRIKE holds from its POST's TICK on for FADE ticks (that many, the first one counted; "
        + "1 .. 10000, 100 at first)";
    static final String QUIET = "by LEVEL 1 the WRITER is SILENT for QUIET ticks from that TICK on, by LEVEL 2 for twice "
        + "as many (1 .. 10000, 10 at first)";
    static final String LEVEL = "The STRIKE of this one: LEVEL n, at most 3";
    static final String GONE = "by LEVEL 3 GONE from it on.";
    static final String HIDDEN = "A POST is HIDDEN if one of its CASES is GUILTY, GUILTY for good, or APPEALED";
    static final String WARNED = "a WRITER is WARNED as often as such CASES whose RULE lets WARNED or STRIKE follow.";
    static final String LIMIT = "A JUDGE whose STOOD ALONE times 100 is more than LIMIT times how many (LIMIT 0 .. 100, "
        + "100 at first), with 5 VOTES ASKED of at least, comes to REST, and its GIFTS go back";
    static final String LOOK = "all JUDGES are looked at so, the least first, behind each judgement, and behind each "
        + "known() that is not refused.";
    static final String DOUBT = "a VOTE on a KNOWN CASE is held against what is KNOWN, another one against what its CASE "
        + "was judged this time (if it is judged by now).";
    static final String LIKE = "LIKE: CASES of one RULE that are CLEARED or GUILTY (for good or not; APPEALED ones are "
        + "not), whose POSTS' MARKS differ in at most d bits.";
    static final String LATE = "LATE: a CASE that is OPEN or APPEALED is late by how many ticks it waits (from the TICK "
        + "at which it came, or was APPEALED) beyond DUE (now; 1 .. 1000; 10, 20, 30 at first) of the GRADE that its "
        + "RULE had when it came, 0 at least.";
    static final String DUE = LATE;
    static final String FIRST_NAMED = "Answers, the first that a call names: NONE (-1): there is no such thing, or a "
        + "number is not as said; FULL (-2); THERE (-3); NOT (-4): as told.";

    /** All judges may judge of all rules, with load 20 and weight 1. */
    static final String BENCH = each(0, 19, "judge(#, 255, 20, 1) = 1;");
    static final String FULL_POSTS = each(0, 299, "post(0, 1, 0) = #;");
    /** Fifty posts with eight cases each. */
    static final String FULL_CASES = each(0, 49, "post(0, 1, 0) = #;") + fullOfCases();

    /** All 400 cases, of which the last has the greatest harm times reach. */
    static final String LAST_IS_NEXT = FULL_CASES.replace("post(0, 1, 0) = 49;", "post(0, 2, 0) = 49;")
        + "rule(7, 0, 2, 0);";

    private static Document document;

    static void reads(Document read) {
        document = read;
    }

    /** A test of a promise for these words of the document. */
    static void edge(int promise, String words, String... pieces) {
        claim(promise, words);
        EdgeRun run = new EdgeRun("promise " + promise + ", \"" + words + "\"", String.join(" ", pieces));
        for (int kind : run.go()) {
            document.claim(Calls.promiseOf(kind), Document.REFUSED);
        }
    }

    static void claim(int promise, String words) {
        document.claim(promise, words);
    }

    /** The calls with each number from one to the other in the place of the sign #. */
    static String each(int from, int to, String calls) {
        StringBuilder all = new StringBuilder();
        for (int n = from; n <= to; n++) {
            all.append(calls.replace("#", "" + n));
        }
        return all.toString();
    }

    static String times(int n, String calls) {
        return calls.repeat(n);
    }

    private static String fullOfCases() {
        StringBuilder all = new StringBuilder();
        for (int c = 0; c < 400; c++) {
            all.append("complain(" + c / 8 + ", " + c % 8 + ") = " + c + ";");
        }
        return all.toString();
    }

    /** Each of these for the sign #: a call that must answer NONE. */
    static String none(String call, String... wrong) {
        StringBuilder all = new StringBuilder();
        for (String number : wrong) {
            all.append(call.replace("#", number)).append(" = -1;");
        }
        return all.toString();
    }

    static String opened(int n, int writer, int rule) {
        return "post(" + writer + ", " + (n + 1) + ", 0) = " + n + "; complain(" + n + ", " + rule + ") = " + n + ";";
    }

    /** Judges from this one on vote on the case by the signs (G, N); the state behind the last vote. */
    static String votes(int c, int from, String signs, int state) {
        StringBuilder all = new StringBuilder();
        for (int i = 0; i < signs.length(); i++) {
            boolean last = i == signs.length() - 1;
            all.append("give(" + (from + i) + ") = " + c + "; vote(" + (from + i) + ", " + c + ", "
                + (signs.charAt(i) == 'G' ? 1 : 0) + ")" + (last ? " = " + state : "") + ";");
        }
        return all.toString();
    }

    static String guilty(int n, int writer, int rule) {
        return opened(n, writer, rule) + votes(n, 0, "G", 2);
    }

    static String cleared(int n, int writer, int rule) {
        return opened(n, writer, rule) + votes(n, 0, "N", 1);
    }

    /** Post and case n of writer 0 under rule 0, which has grade 0, brought to this state. */
    static String inState(int n, int state) {
        switch (state) {
            case 0: return opened(n, 0, 0);
            case 1: return cleared(n, 0, 0);
            case 2: return guilty(n, 0, 0);
            case 3: return guilty(n, 0, 0) + "appeal(" + n + ") = 1;";
            case 4: return inState(n, 3) + votes(n, 1, "NNN", 4);
            default: return inState(n, 3) + votes(n, 1, "GGG", 5);
        }
    }

    /** Cases 0 to 5 in the states 0 to 5. */
    static String everyState() {
        StringBuilder all = new StringBuilder();
        for (int state = 0; state < 6; state++) {
            all.append(inState(state, state));
        }
        return all.toString();
    }
}
