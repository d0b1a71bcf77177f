/** The edges of promises 18 to 24: about, judged, appeal, known, late, like, unlike. */
final class CasesEdges extends Edges {
    private static final String ABOUT_ANSWERS = "Of a CASE: 0 POST, 1 RULE, 2 STATE, 3 COMPLAINTS, 4 how many VOTES it ASKS "
        + "for (0 if it is neither OPEN nor APPEALED), 5 GIFTS of it, 6 by how much it is LATE (0 likewise), 7 how often it "
        + "was judged. NONE. (How many voted is not told ahead of the judgement.)";
    private static final String JUDGED_ANSWERS = "Of the latest judgement of a CASE: 0 VOTES, 1 g, 2 n. NONE; NOT: it was "
        + "never judged.";
    private static final String APPEAL_ANSWERS = "A CASE is APPEALED: 1. NONE; NOT: it is not GUILTY (state 2).";
    private static final String GUILT_STANDS = "An APPEAL: a CASE that is GUILTY becomes APPEALED (until it is judged anew its "
        + "GUILT stands)";
    private static final String KNOWN_ANSWERS = "What a CASE should be judged is KNOWN (guilty 1, 0), or not any more (-1): "
        + "what it was (-1: not). -5: there is no such case, or guilty is not as said.";
    private static final String LATE_ANSWERS = "The CASE that is LATE by most (of several the first). NOT: none is.";
    private static final String LIKE_ANSWERS = "How many other CASES are LIKE a CASE by d (0 .. 8), whatever its own state. "
        + "NONE.";
    private static final String UNLIKE_ANSWERS = "How many of these were judged (at last) otherwise than most of them, "
        + "GUILTY or CLEARED (0 if as many are both). NONE.";

    private CasesEdges() {
    }

    static void all() {
        about();
        aboutAsks();
        aboutLate();
        judged();
        appeal();
        appealAsks();
        known();
        knownLooks();
        late();
        like();
        likeStates();
        unlike();
    }

    private static void about() {
        edge(18, CASES, none("about(#, 0)", "0", "-1", "MIN", "MAX"), opened(0, 0, 0), none("about(#, 0)", "1", "-1"),
            none("about(#, 2)", "1", "-1"));
        edge(18, CASES, FULL_CASES, "about(0, 0) = 0; about(399, 0) = 49; about(399, 1) = 7; about(399, 2) = 0;",
            none("about(#, 0)", "400", "-1"));
        edge(18, POSTS, FULL_POSTS, "complain(299, 3) = 0; complain(0, 3) = 1; about(0, 0) = 299; about(1, 0) = 0");
        edge(18, RULES, "post(0, 1, 0);", each(0, 7, "complain(0, #) = #; about(#, 1) = #;"));
        edge(18, STATES, BENCH, everyState(), each(0, 5, "about(#, 2) = #;"));
        edge(18, ABOUT_ANSWERS, BENCH, everyState(), "about(0, 7) = 0; about(1, 7) = 1; about(2, 7) = 1; about(3, 7) = 1;",
            "about(4, 7) = 2; about(5, 7) = 2;", none("about(0, #)", "-1", "8", "MIN", "MAX"));
        edge(18, GIFT, BENCH, "rule(0, 1, 1, 0);", opened(0, 0, 0), "about(0, 5) = 0; give(0) = 0; about(0, 5) = 1;",
            "give(1) = 0; about(0, 5) = 2; vote(0, 0, 1) = 0; about(0, 5) = 1; undo() = 0; about(0, 5) = 0");
    }

    private static void aboutAsks() {
        for (int grade = 0; grade < 3; grade++) {
            edge(18, ASKS, "rule(0, " + grade + ", 1, 0);", opened(0, 0, 0), "about(0, 4) = " + (1 + 2 * grade) + ";",
                "rule(0, " + (grade + 1) % 3 + ", 1, 0); complain(0, 0) = 0; about(0, 4) = " + (1 + 2 * grade));
        }
        edge(18, ABOUT_ANSWERS, BENCH, everyState(), "about(0, 4) = 1; about(1, 4) = 0; about(2, 4) = 0; about(3, 4) = 3;",
            "about(4, 4) = 0; about(5, 4) = 0; about(0, 5) = 0; about(3, 5) = 0");
        edge(18, ABOUT_ANSWERS, BENCH, "rule(0, 1, 1, 0);", opened(0, 0, 0), votes(0, 0, "GG", 0),
            "about(0, 4) = 3; about(0, 5) = 0; about(0, 7) = 0; judged(0, 0) = -4");
        edge(18, APPEALED, BENCH, "rule(0, 1, 1, 0);", opened(0, 0, 0), votes(0, 0, "GGG", 2), "rule(0, 2, 1, 0);",
            "about(0, 4) = 0; appeal(0) = 1; about(0, 4) = 5;", votes(0, 3, "GGGG", 3), "about(0, 4) = 5;",
            votes(0, 7, "G", 5), "about(0, 4) = 0");
    }

    private static void aboutLate() {
        for (int grade = 0; grade < 3; grade++) {
            edge(18, LATE, "rule(0, " + grade + ", 1, 0); tick(3);", opened(0, 0, 0), "rule(0, " + (grade + 1) % 3 + ", 1, 0);",
                "about(0, 6) = 0; tick(" + (9 + 10 * grade) + "); about(0, 6) = 0; tick(1); about(0, 6) = 0; tick(1);",
                "about(0, 6) = 1; tick(1000); about(0, 6) = 1001; due(" + grade + ", 1); about(0, 6) = " + (1010 + 10 * grade));
        }
        edge(18, LATE, BENCH, guilty(0, 0, 0), "tick(50); about(0, 6) = 0; appeal(0) = 1; about(0, 6) = 0; tick(10);",
            "about(0, 6) = 0; tick(1); about(0, 6) = 1");
        edge(18, ABOUT_ANSWERS, BENCH, everyState(), "tick(11); about(0, 6) = 1; about(1, 6) = 0; about(2, 6) = 0;",
            "about(3, 6) = 1; about(4, 6) = 0; about(5, 6) = 0");
    }

    private static void judged() {
        edge(19, CASES, none("judged(#, 0)", "0", "-1", "MIN", "MAX"), opened(0, 0, 0), "judged(0, 0) = -4; judged(1, 0) = -1");
        edge(19, CASES, LAST_IS_NEXT, "judge(0, 255, 20, 1);", votes(399, 0, "G", 2), "judged(399, 0) = 1; judged(400, 0) = -1");
        edge(19, JUDGED_ANSWERS, BENCH, everyState(), "judged(0, 0) = -4; judged(0, 1) = -4; judged(0, 2) = -4;",
            each(1, 3, "judged(#, 0) = 1;"), "judged(1, 1) = 0; judged(1, 2) = 1; judged(3, 1) = 1; judged(3, 2) = 0;",
            "judged(4, 0) = 3; judged(4, 1) = 0; judged(4, 2) = 3; judged(5, 0) = 3; judged(5, 1) = 3; judged(5, 2) = 0");
        edge(19, JUDGED_ANSWERS, BENCH, guilty(0, 0, 0), none("judged(0, #)", "-1", "3", "MIN", "MAX"));
        edge(19, FIRST_NAMED, opened(0, 0, 0), none("judged(0, #)", "-1", "3"), "judged(0, 2) = -4");
    }

    private static void appeal() {
        edge(20, CASES, none("appeal(#)", "0", "-1", "MIN", "MAX"), opened(0, 0, 0), "appeal(1) = -1; appeal(0) = -4");
        edge(20, CASES, LAST_IS_NEXT, "judge(0, 255, 20, 1);", votes(399, 0, "G", 2), "appeal(400) = -1; appeal(399) = 1");
        edge(20, APPEAL_ANSWERS, BENCH, everyState(), "appeal(0) = -4; appeal(1) = -4; appeal(3) = -4; appeal(4) = -4;",
            "appeal(5) = -4; appeal(2) = 1; appeal(2) = -4;", each(4, 5, "about(#, 2) = #;"),
            "about(0, 2) = 0; about(1, 2) = 1; about(2, 2) = 3; about(3, 2) = 3; count(2) = 3");
        edge(20, STATES, BENCH, inState(0, 2), "appeal(0) = 1; about(0, 2) = 3;", votes(0, 1, "NNN", 4), "appeal(0) = -4;",
            inState(1, 5), "appeal(1) = -4");
        edge(20, GUILT_STANDS, BENCH, "rule(0, 0, 1, 2);", guilty(0, 0, 0), "appeal(0) = 1; hidden(0) = 1; level(0) = 0;",
            "writer(0, 0) = 1; writer(0, 3) = 1;", votes(0, 1, "NN", 3), "hidden(0) = 1; level(0) = 0;", votes(0, 3, "N", 4),
            "hidden(0) = 0; level(0) = -4; writer(0, 0) = 0; writer(0, 3) = 0");
    }

    private static void appealAsks() {
        String five = BENCH + "rule(0, 2, 1, 0);" + opened(0, 0, 0);
        edge(20, APPEALED, BENCH, guilty(0, 0, 0), "appeal(0) = 1; about(0, 4) = 3;", votes(0, 1, "GG", 3), votes(0, 3, "G", 5));
        edge(20, APPEALED, five, votes(0, 0, "GGGGG", 2), "appeal(0) = 1; about(0, 4) = 7");
        edge(20, APPEALED, five, votes(0, 0, "GGGNNGG", 2), "appeal(0) = 1; about(0, 4) = 9;",
            each(7, 15, "give(#) = 0;"), "give(16) = -4");
        edge(20, APPEALED, five, votes(0, 0, "GGGNNGNGN", 2), "appeal(0) = 1; about(0, 4) = 9;",
            each(9, 17, "give(#) = 0;"), "give(18) = -4;", each(9, 16, "vote(#, 0, 0) = 3;"), "vote(17, 0, 0) = 4; judged(0, 0) = 9");
        edge(20, APPEALED, BENCH, "rule(0, 1, 1, 0);", opened(0, 0, 0), votes(0, 0, "GGG", 2), "appeal(0) = 1; about(0, 4) = 5;",
            votes(0, 3, "GGGG", 3), "about(0, 2) = 3;", votes(0, 7, "G", 5), "judged(0, 0) = 5");
    }

    private static void known() {
        edge(21, CASES, "known(0, 1) = -5; known(-1, 1) = -5;", opened(0, 0, 0), "known(1, 1) = -5; known(0, 1) = -1;",
            "known(MIN, 0) = -5; known(MAX, 0) = -5; known(0, 1) = 1");
        edge(21, CASES, FULL_CASES, "known(400, 1) = -5; known(399, 1) = -1; known(399, 0) = 1; known(0, 0) = -1");
        edge(21, KNOWN_ANSWERS, opened(0, 0, 0), "known(0, -1) = -1; known(0, 1) = -1; known(0, -2) = -5; known(0, 2) = -5;",
            "known(0, MIN) = -5; known(0, MAX) = -5; known(0, 0) = 1; known(0, -2) = -5; known(0, 2) = -5; known(0, -1) = 0;",
            "known(0, -1) = -1");
        edge(21, KNOWN_ANSWERS, BENCH, everyState(), each(0, 5, "known(#, 1) = -1; known(#, 0) = 1; about(#, 2) = #;"));
        edge(21, DOUBT, BENCH, guilty(0, 0, 0), "told(0, 7) = 0; known(0, 0) = -1; told(0, 7) = 1; known(0, 2) = -5;",
            "told(0, 7) = 1; known(0, 1) = 0; told(0, 7) = 0; known(0, 0) = 1; known(0, -1) = 0; told(0, 7) = 0");
    }

    private static void knownLooks() {
        String five = BENCH;
        for (int n = 0; n < 5; n++) {
            five += guilty(n, 0, 0);
        }
        edge(21, LOOK, five, "limit(19) = 100;", opened(5, 0, 0), "give(0) = 5; known(0, 1) = -1; told(0, 4) = 0;",
            "limit(100) = 19; known(0, 0) = 1; limit(19) = 100; known(5, -2) = -5; known(6, 0) = -5; told(0, 4) = 0;",
            "known(0, 0) = 0; told(0, 4) = 1; told(0, 3) = 0; about(5, 5) = 0; rest(0, 0) = 1; known(0, -1) = 0; told(0, 4) = 0");
        edge(21, LIMIT, five, "limit(20) = 100; known(0, 0) = -1; told(0, 4) = 0; limit(19) = 20; known(0, 0) = 0; told(0, 4) = 1");
        String four = BENCH;
        for (int n = 0; n < 4; n++) {
            four += guilty(n, 0, 0);
        }
        edge(21, LIMIT, four, "limit(0) = 100;", each(0, 3, "known(#, 0) = -1;"), "told(0, 7) = 4; told(0, 4) = 0;",
            guilty(4, 0, 0), "told(0, 6) = 5; told(0, 4) = 1");
        edge(21, LIMIT, five, guilty(5, 0, 0), "limit(17) = 100; known(0, 0) = -1; told(0, 6) = 6; told(0, 4) = 0;",
            "limit(16) = 17; known(0, 0) = 0; told(0, 4) = 1");
        String three = BENCH + "rule(0, 1, 1, 0);";
        for (int n = 0; n < 5; n++) {
            three += opened(n, 0, 0) + "give(0) = #; give(10) = #; give(19) = #; vote(0, #, 1); vote(10, #, 1); vote(19, #, 1) = 2;"
                .replace("#", "" + n);
        }
        edge(21, LOOK, three, "limit(0) = 100; known(4, 0) = -1; told(0, 4) = 1; told(10, 4) = 1; told(19, 4) = 1;",
            "told(1, 4) = 0; told(9, 4) = 0; told(18, 4) = 0");
    }

    private static void late() {
        edge(22, LATE_ANSWERS, BENCH, "late() = -4;", opened(0, 0, 0), opened(1, 0, 0), "tick(10); late() = -4; tick(1); late() = 0;",
            votes(1, 0, "G", 2), "late() = 0;", votes(0, 0, "G", 2), "late() = -4; tick(1000); late() = -4");
        edge(22, LATE_ANSWERS, "rule(1, 1, 1, 0);", opened(0, 0, 0), "tick(1);", opened(1, 0, 0), opened(2, 0, 1), "tick(20);",
            "late() = 0; due(1, 8); late() = 2; due(1, 9); late() = 0; due(1, 10); late() = 0; due(0, 1000); late() = 2");
        edge(22, LATE, BENCH, guilty(0, 0, 0), "tick(100); appeal(0) = 1; tick(10); late() = -4; tick(1); late() = 0;",
            opened(1, 0, 0), "tick(1); late() = 0; due(0, 1); late() = 0; due(0, 11); late() = 0; due(0, 12); late() = -4");
        edge(22, LATE, BENCH, everyState(), "tick(11); late() = 0;", votes(3, 9, "GGG", 5), votes(0, 0, "G", 2), "late() = -4");
        edge(22, CASES, each(0, 7, "rule(#, 2, 1, 0);"),
            FULL_CASES.replace("complain(49, 7) = 399;", "rule(7, 0, 1, 0); complain(49, 7) = 399;"),
            "tick(10); late() = -4; tick(1); late() = 399; tick(19); late() = 399; due(2, 1); late() = 0");
    }

    private static void like() {
        edge(23, CASES, none("like(#, 8)", "0", "-1", "MIN", "MAX"), opened(0, 0, 0), "like(1, 8) = -1; like(0, 8) = 0");
        edge(23, CASES, LAST_IS_NEXT, "judge(0, 255, 20, 1);", votes(399, 0, "G", 2), "like(399, 8) = 0; like(391, 8) = 1;",
            "like(398, 8) = 0; like(400, 8) = -1");
        StringBuilder marked = new StringBuilder(BENCH + "post(0, 1, 0) = 0; complain(0, 0) = 0;");
        for (int n = 1; n <= 8; n++) {
            marked.append("post(0, " + (n + 1) + ", " + ((1 << n) - 1) + ") = " + n + "; complain(" + n + ", 0) = " + n + ";"
                + votes(n, 0, n % 2 == 0 ? "G" : "N", n % 2 == 0 ? 2 : 1));
        }
        edge(23, LIKE_ANSWERS, marked.toString(), each(0, 8, "like(0, #) = #;"), none("like(0, #)", "-1", "9", "MIN", "MAX"));
        edge(23, LIKE, marked.toString(), "like(8, 0) = 0; like(8, 1) = 1; like(8, 7) = 7; like(8, 8) = 7;",
            votes(0, 0, "G", 2), "like(8, 7) = 7; like(8, 8) = 8; like(4, 3) = 6; like(4, 4) = 8");
        edge(23, MARKS, BENCH, "post(0, 3, 128) = 0; post(0, 2, 1) = 1; post(0, 1, 129) = 2;", each(0, 2, "complain(#, 0) = #;"),
            each(0, 2, "give(0) = #; vote(0, #, 1) = 2;"), "like(0, 0) = 0; like(0, 1) = 1; like(0, 2) = 2; like(2, 1) = 2");
        edge(23, RULES, BENCH, guilty(0, 0, 0), guilty(1, 0, 7), guilty(2, 0, 7), "like(0, 8) = 0; like(1, 8) = 1; like(2, 0) = 1");
    }

    private static void likeStates() {
        edge(23, LIKE, BENCH, opened(0, 0, 0), "tick(1);", inState(1, 1), "like(0, 0) = 1;", inState(2, 2), "like(0, 0) = 2;",
            inState(3, 3), "like(0, 0) = 2;", inState(4, 4), "like(0, 0) = 3;", inState(5, 5), "like(0, 0) = 4;",
            inState(6, 0), "like(0, 0) = 4");
        edge(23, STATES, BENCH, everyState(), "like(0, 8) = 4; like(1, 8) = 3; like(2, 8) = 3; like(3, 8) = 4;",
            "like(4, 8) = 3; like(5, 8) = 3");
        edge(24, STATES, BENCH, everyState(), cleared(6, 0, 0), "unlike(0, 8) = 2; unlike(1, 8) = 0; unlike(2, 8) = 1;",
            "unlike(3, 8) = 2; unlike(4, 8) = 0; unlike(5, 8) = 1");
    }

    private static void unlike() {
        edge(24, CASES, none("unlike(#, 8)", "0", "-1", "MIN", "MAX"), opened(0, 0, 0), "unlike(1, 8) = -1; unlike(0, 8) = 0");
        edge(24, CASES, LAST_IS_NEXT, "judge(0, 255, 20, 1);", votes(399, 0, "G", 2), "unlike(391, 8) = 0; unlike(399, 8) = 0;",
            "unlike(400, 8) = -1");
        String four = BENCH + opened(0, 0, 0) + "tick(1);" + guilty(1, 0, 0);
        edge(24, UNLIKE_ANSWERS, four, "unlike(0, 8) = 0;", cleared(2, 0, 0), "unlike(0, 8) = 0; unlike(1, 8) = 0;",
            guilty(3, 0, 0), "unlike(0, 8) = 1;", cleared(4, 0, 0), "unlike(0, 8) = 0; unlike(1, 8) = 1; unlike(2, 8) = 1;",
            cleared(5, 0, 0), "unlike(0, 8) = 2;", none("unlike(0, #)", "-1", "9", "MIN", "MAX"));
        edge(24, UNLIKE_ANSWERS, four, guilty(2, 0, 0), guilty(3, 0, 0), "unlike(0, 0) = 0; appeal(3) = 1; unlike(0, 0) = 0;",
            votes(3, 1, "NNN", 4), "unlike(0, 0) = 1");
        edge(24, LIKE, BENCH, opened(0, 0, 0), "post(0, 9, 255) = 1; complain(1, 0) = 1;", votes(1, 0, "G", 2),
            "post(0, 9, 127) = 2; complain(2, 0) = 2;", votes(2, 0, "N", 1), "post(0, 9, 63) = 3; complain(3, 0) = 3;",
            votes(3, 0, "N", 1), each(0, 5, "unlike(0, #) = 0;"), "unlike(0, 6) = 0; unlike(0, 7) = 0; unlike(0, 8) = 1");
        edge(24, LIKE, BENCH, opened(0, 0, 0), guilty(1, 0, 1), cleared(2, 0, 0), cleared(3, 0, 0), "unlike(0, 8) = 0;",
            guilty(4, 0, 0), "unlike(0, 8) = 1; appeal(4) = 1; unlike(0, 8) = 0");
    }
}
