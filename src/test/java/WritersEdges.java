/** The edges of promises 25 to 29: writer, level, hidden, count, check. */
final class WritersEdges extends Edges {
    private static final String WRITER_ANSWERS = "Of a WRITER, as of now: 0 STRIKES that hold, 1 whether SILENT, 2 whether GONE "
        + "(1, 0), 3 how often WARNED, 4 POSTS, 5 of these HIDDEN, 6 the TICK from which GONE (-1: not). NONE (6 may be -1, "
        + "too).";
    private static final String LEVEL_ANSWERS = "The LEVEL of the STRIKE of a CASE; NONE: there is no such case; NOT: it has "
        + "none.";
    private static final String ORDER = "WHAT FOLLOWS for a WRITER: all CASES that are GUILTY, GUILTY for good, or APPEALED, whose "
        + "RULE lets STRIKE follow (now), are gone through by the TICK of their POSTS, then by POST, then by CASE";
    private static final String HIDDEN_ANSWERS = "1 if a POST is HIDDEN, else 0. NONE.";
    private static final String COUNT_ANSWERS = "How many: 0 POSTS, 1 CASES, 2 of these OPEN or APPEALED, 3 GIFTS, "
        + "4 judgements, 5 TICK. NONE.";
    private static final String STRIKES = BENCH + "rule(0, 0, 1, 2);";

    private WritersEdges() {
    }

    static void all() {
        writer();
        writerFade();
        writerSilent();
        writerGone();
        writerWarnedAndHidden();
        level();
        levelFades();
        levelOrder();
        hidden();
        count();
        check();
    }

    private static String guiltyUpTo(int last) {
        StringBuilder all = new StringBuilder();
        for (int n = 0; n <= last; n++) {
            all.append(guilty(n, 0, 0));
        }
        return all.toString();
    }

    private static void writer() {
        edge(25, WRITERS, "post(0, 1, 0); post(39, 1, 0); post(39, 1, 0); writer(0, 4) = 1; writer(39, 4) = 2;",
            none("writer(#, 4)", "-1", "40", "MIN", "MAX"), none("writer(#, 0)", "-1", "40"));
        edge(25, WRITERS, STRIKES, guilty(0, 39, 0), guilty(1, 39, 0), guilty(2, 0, 0), "writer(39, 0) = 2; writer(39, 1) = 1;",
            "writer(0, 0) = 1; writer(0, 1) = 0; writer(39, 5) = 2; writer(0, 5) = 1; writer(38, 5) = 0");
        edge(25, WRITER_ANSWERS, each(0, 5, "writer(0, #) = 0;"), "writer(0, 6) = -1;",
            none("writer(0, #)", "-1", "7", "MIN", "MAX"), "writer(40, 6) = -1");
        edge(25, POSTS, FULL_POSTS, "post(0, 1, 0) = -2; writer(0, 4) = 300; writer(0, 5) = 0; writer(1, 4) = 0");
    }

    private static void writerFade() {
        edge(25, FADE, STRIKES, "ladder(7, 1); tick(5);", guilty(0, 0, 0), "writer(0, 0) = 1; tick(6); writer(0, 0) = 1; tick(1);",
            "writer(0, 0) = 0; ladder(8, 1); writer(0, 0) = 1; ladder(7, 1); writer(0, 0) = 0");
        edge(25, FADE, STRIKES, "ladder(3, 1);", guilty(0, 0, 0), "tick(1);", guilty(1, 0, 0), "tick(1);", guilty(2, 0, 0),
            "writer(0, 0) = 3; tick(1); writer(0, 0) = 2; tick(1); writer(0, 0) = 1; tick(1); writer(0, 0) = 0");
        edge(25, FADE, STRIKES, "ladder(4, 1);", opened(0, 0, 0), "tick(3);", votes(0, 0, "G", 2), "writer(0, 0) = 1; tick(1);",
            "writer(0, 0) = 0");
    }

    private static void writerSilent() {
        edge(25, QUIET, STRIKES, "ladder(50, 6); tick(2);", guiltyUpTo(0), "writer(0, 1) = 0;", guilty(1, 0, 0),
            "writer(0, 1) = 1; tick(5); writer(0, 1) = 1; tick(1); writer(0, 1) = 0");
        edge(25, QUIET, STRIKES, "ladder(50, 6); tick(2);", guiltyUpTo(2), "tick(11); writer(0, 1) = 1; tick(1); writer(0, 1) = 0;",
            "ladder(50, 7); writer(0, 1) = 1; ladder(50, 6); writer(0, 1) = 0");
        edge(25, QUIET, STRIKES, "ladder(1, 3);", guiltyUpTo(1), "tick(1);", guilty(2, 0, 0), "level(2) = 0; writer(0, 1) = 1; tick(1);",
            "writer(0, 1) = 1; tick(1); writer(0, 1) = 0");
        edge(25, "At a TICK a WRITER is SILENT if it is within such ticks of one of these, GONE if it is from one on.", STRIKES,
            "ladder(50, 1);", guiltyUpTo(2), "tick(2); writer(0, 1) = 0;", guilty(3, 0, 0), "level(3) = 3; writer(0, 1) = 0;",
            "writer(0, 2) = 1; tick(1); writer(0, 2) = 1; writer(0, 6) = 2");
    }

    private static void writerGone() {
        edge(25, GONE, STRIKES, guiltyUpTo(2), "writer(0, 2) = 0; writer(0, 6) = -1;", guilty(3, 0, 0), "writer(0, 2) = 1;",
            "writer(0, 6) = 0; tick(1000); writer(0, 2) = 1; writer(0, 6) = 0; writer(0, 0) = 0");
        edge(25, TICK, STRIKES, guiltyUpTo(3), "writer(0, 6) = 0; writer(0, 2) = 1; writer(1, 6) = -1; writer(1, 2) = 0");
        edge(25, WRITER_ANSWERS, STRIKES, guiltyUpTo(2), "tick(7);", guilty(3, 0, 0), "tick(1);", guilty(4, 0, 0), "writer(0, 6) = 7;",
            "appeal(0) = 1; writer(0, 6) = 7;", votes(0, 1, "NNN", 4), "writer(0, 6) = 8; rule(0, 0, 1, 1); writer(0, 6) = -1;",
            "writer(0, 2) = 0");
        edge(25, LEVEL, STRIKES, guiltyUpTo(3), "tick(4);", guilty(4, 0, 0), guilty(5, 0, 0), "writer(0, 6) = 0; writer(0, 0) = 6");
        edge(25, GONE, STRIKES, "ladder(5, 1);", guiltyUpTo(2), "tick(5);", guilty(3, 0, 0), "writer(0, 2) = 0; ladder(6, 1);",
            "writer(0, 2) = 1; writer(0, 6) = 5");
    }

    private static void writerWarnedAndHidden() {
        String kinds = BENCH + "rule(1, 0, 1, 1); rule(2, 0, 1, 2);";
        edge(25, WARNED, kinds, guilty(0, 0, 0), "writer(0, 3) = 0;", guilty(1, 0, 1), "writer(0, 3) = 1;", guilty(2, 0, 2),
            "writer(0, 3) = 2;", cleared(3, 0, 2), opened(4, 0, 2), "writer(0, 3) = 2; rule(0, 0, 1, 1); writer(0, 3) = 3;",
            "rule(1, 0, 1, 0); rule(2, 0, 1, 0); writer(0, 3) = 1");
        edge(25, WARNED, BENCH, "rule(0, 0, 1, 1);", everyState(), "writer(0, 3) = 3; complain(2, 1) = 6;", "rule(1, 0, 1, 2);",
            "writer(0, 3) = 3; give(9) = 3; give(9) = 6; vote(9, 6, 1) = 2; writer(0, 3) = 4; writer(0, 5) = 3");
        edge(25, HIDDEN, BENCH, everyState(), "writer(0, 4) = 6; writer(0, 5) = 3; writer(0, 3) = 0; writer(1, 5) = 0");
        edge(25, HIDDEN, BENCH, guilty(0, 0, 0), "complain(0, 1) = 1;", votes(1, 0, "G", 2), "writer(0, 5) = 1");
    }

    private static void level() {
        edge(26, CASES, none("level(#)", "0", "-1", "MIN", "MAX"), STRIKES, opened(0, 0, 0), "level(0) = -4; level(1) = -1;",
            votes(0, 0, "G", 2), "level(0) = 0; level(1) = -1");
        edge(26, CASES, LAST_IS_NEXT, "judge(0, 255, 20, 1);", votes(399, 0, "G", 2), "level(399) = -4; rule(7, 0, 1, 2);",
            "level(399) = 0; level(398) = -4; level(400) = -1");
        edge(26, LEVEL_ANSWERS, STRIKES, everyState(), "level(0) = -4; level(1) = -4; level(2) = 0; level(3) = 1; level(4) = -4;",
            "level(5) = 2; level(6) = -1");
        edge(26, LEVEL_ANSWERS, BENCH, "rule(1, 0, 1, 1); rule(2, 0, 1, 2);", guilty(0, 0, 0), guilty(1, 0, 1), guilty(2, 0, 2),
            "level(0) = -4; level(1) = -4; level(2) = 0; rule(1, 0, 1, 2); level(1) = 0; level(2) = 1; rule(2, 0, 1, 1);",
            "level(2) = -4");
        edge(26, LEVEL, STRIKES, guiltyUpTo(5), "level(0) = 0; level(1) = 1; level(2) = 2; level(3) = 3; level(4) = 3; level(5) = 3");
        edge(26, GONE, STRIKES, guiltyUpTo(3), "level(3) = 3; writer(0, 2) = 1; level(2) = 2");
        edge(26, QUIET, STRIKES, guiltyUpTo(1), "level(0) = 0; level(1) = 1; writer(0, 1) = 1; tick(50); level(1) = 1");
    }

    private static void levelFades() {
        edge(26, FADE, STRIKES, "ladder(10, 1);", guilty(0, 0, 0), "tick(9);", guilty(1, 0, 0), "level(1) = 1; tick(1);", guilty(2, 0, 0),
            "level(2) = 1; ladder(11, 1); level(2) = 2; ladder(10, 1); level(2) = 1; ladder(1, 1); level(1) = 0; level(2) = 0");
        edge(26, FADE, STRIKES, "ladder(1, 1);", guilty(0, 0, 0), guilty(1, 0, 0), "level(1) = 1; tick(1);", guilty(2, 0, 0), "level(2) = 0");
        edge(26, FADE, STRIKES, "ladder(10000, 1);", guilty(0, 0, 0), times(9, "tick(1000);"), "tick(999);", guilty(1, 0, 0), "tick(1);",
            guilty(2, 0, 0), "level(1) = 1; level(2) = 1");
        edge(26, "n being how many STRIKES of those ahead hold at the TICK of the POST", STRIKES, "ladder(10, 1);", opened(0, 0, 0),
            "tick(9);", opened(1, 0, 0), "tick(1);", opened(2, 0, 0), "tick(500);", votes(2, 0, "G", 2), votes(1, 0, "G", 2),
            votes(0, 0, "G", 2), "level(0) = 0; level(1) = 1; level(2) = 1; writer(0, 0) = 0");
    }

    private static void levelOrder() {
        edge(26, ORDER, STRIKES, "rule(1, 0, 1, 2); post(0, 1, 0) = 0; post(0, 9, 0) = 1; complain(1, 0) = 0; complain(0, 1) = 1;",
            "complain(0, 0) = 2; give(0) = 0; vote(0, 0, 1) = 2; level(0) = 0; give(0) = 1; vote(0, 1, 1) = 2; level(0) = 1;",
            "give(0) = 2; vote(0, 2, 1) = 2; level(1) = 0; level(2) = 1; level(0) = 2");
        edge(26, ORDER, STRIKES, opened(0, 0, 0), "tick(1);", opened(1, 0, 0), votes(1, 0, "G", 2), "level(1) = 0;",
            votes(0, 0, "G", 2), "level(0) = 0; level(1) = 1; appeal(0) = 1; level(0) = 0; level(1) = 1;",
            votes(0, 1, "GGG", 5), "level(0) = 0; level(1) = 1; appeal(1) = 1;", votes(1, 1, "NNN", 4), "level(1) = -4");
        edge(26, ORDER, STRIKES, guilty(0, 0, 0), guilty(1, 39, 0), guilty(2, 0, 0), "level(1) = 0; level(2) = 1");
    }

    private static void hidden() {
        edge(27, POSTS, none("hidden(#)", "0", "-1", "MIN", "MAX"), "post(0, 1, 0) = 0; hidden(0) = 0; hidden(1) = -1");
        edge(27, POSTS, "judge(0, 1, 2, 1);", FULL_POSTS, "complain(299, 0) = 0;", votes(0, 0, "G", 2),
            "hidden(299) = 1; hidden(298) = 0; hidden(300) = -1");
        edge(27, HIDDEN_ANSWERS, BENCH, everyState(), "hidden(0) = 0; hidden(1) = 0; hidden(2) = 1; hidden(3) = 1; hidden(4) = 0;",
            "hidden(5) = 1; hidden(6) = -1");
        edge(27, HIDDEN, BENCH, "post(0, 1, 0) = 0;", each(0, 7, "complain(0, #) = #;"), "hidden(0) = 0;",
            each(0, 6, "give(0) = #; vote(0, #, 0) = 1;"), "hidden(0) = 0; give(0) = 7; vote(0, 7, 1) = 2; hidden(0) = 1");
        edge(27, HIDDEN, BENCH, "post(0, 1, 0) = 0; complain(0, 0) = 0; complain(0, 1) = 1;", votes(0, 0, "G", 2), votes(1, 0, "G", 2),
            "appeal(0) = 1;", votes(0, 1, "NNN", 4), "hidden(0) = 1; appeal(1) = 1; hidden(0) = 1;", votes(1, 1, "NNN", 4),
            "hidden(0) = 0");
    }

    private static void count() {
        edge(28, COUNT_ANSWERS, BENCH, everyState(), "tick(4); give(9) = 3; give(9) = 0; count(0) = 6; count(1) = 6; count(2) = 2;",
            "count(3) = 2; count(4) = 7; count(5) = 4;", none("count(#)", "-1", "6", "MIN", "MAX"));
        edge(28, POSTS, FULL_POSTS, "count(0) = 300; post(0, 1, 0) = -2; count(0) = 300");
        edge(28, CASES, FULL_CASES, "count(1) = 400; count(2) = 400; post(0, 1, 0) = 50; complain(50, 0) = -2; count(1) = 400");
        edge(28, TICK, "count(5) = 0; tick(1000) = 1000; count(5) = 1000; tick(1001) = -1; count(5) = 1000");
        edge(28, APPEALED, BENCH, inState(0, 2), "count(2) = 0; appeal(0) = 1; count(2) = 1;", votes(0, 1, "GG", 3),
            "count(2) = 1; count(4) = 1;", votes(0, 3, "G", 5), "count(2) = 0; count(4) = 2");
        edge(28, GIFT, BENCH, opened(0, 0, 0), opened(1, 0, 0), opened(2, 0, 0), "count(3) = 0; give(0) = 2; give(1) = 1; give(0) = 0;",
            "count(3) = 3; vote(0, 2, 1) = 2; count(3) = 2; undo() = 0; count(3) = 1; rest(1, 1) = 0; count(3) = 0; undo() = -4");
    }

    private static void check() {
        String cases = "";
        for (int n = 0; n < 21; n++) {
            cases += opened(n, 0, 0);
        }
        edge(29, "(0, while the class is right.)", "check() = 0;", BENCH, everyState(), "check() = 0; give(9) = 3; give(10) = 3;",
            "give(11) = 3; check() = 0; vote(9, 3, 0) = 3; check() = 0; vote(10, 3, 1) = 3; vote(11, 3, 1) = 5; check() = 0");
        edge(29, GIFT, BENCH, cases, each(1, 20, "give(0); check() = 0;"), "give(0) = -4; check() = 0; judge(0, 0, 0, 1); check() = 0;",
            "vote(0, 20, 1) = 2; check() = 0; undo() = 1; check() = 0");
        edge(29, ASKS, BENCH, "rule(0, 2, 1, 0);", opened(0, 0, 0), each(0, 4, "give(#) = 0;"), "give(5) = -4; check() = 0;",
            "rule(0, 0, 1, 0); check() = 0; vote(0, 0, 1) = 0; check() = 0");
        edge(29, CASES, FULL_CASES, "judge(19, 255, 20, 1);", times(20, "give(19);"), "check() = 0");
        edge(29, JUDGES, BENCH, cases, each(0, 19, "give(#);"), "check() = 0");
    }
}
