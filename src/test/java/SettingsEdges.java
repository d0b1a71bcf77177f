/** The edges of promises 1 to 6: a new object, tick, rule, ladder, due, limit. */
final class SettingsEdges extends Edges {
    private static final String TICKS = "n (1 .. 1000) ticks go by: TICK then (at most 1000000). NONE.";
    private static final String LIMIT_ANSWERS = "LIMIT: what it was. NONE. (Nobody rests by this alone.)";

    private SettingsEdges() {
    }

    static void all() {
        newObject();
        newRules();
        newJudges();
        newLadder();
        tick();
        rule();
        ladderFade();
        ladderQuiet();
        due();
        limit();
    }

    private static void newObject() {
        edge(1, "TICK 0, no posts, no cases.", each(0, 5, "count(#) = 0;"), "hidden(0) = -1; about(0, 0) = -1;",
            "complain(0, 0) = -1; late() = -4; undo() = -4; check() = 0;", each(0, 39, "writer(#, 4) = 0;"));
        edge(1, TICK, "count(5) = 0; tick(1) = 1");
        edge(1, STATES, "post(0, 1, 0) = 0; complain(0, 0) = 0; about(0, 2) = 0");
        edge(1, LIMIT, "limit(0) = 100");
        edge(1, LATE, "due(0, 1) = 10; due(1, 1) = 20; due(2, 1) = 30");
    }

    private static void newRules() {
        for (int r = 0; r < 8; r++) {
            int other = (r + 1) % 8;
            edge(1, RULES, "post(0, 1, 0) = 0; complain(0, " + r + ") = 0; about(0, 1) = " + r);
            edge(1, GRADE, "post(0, 1, 0) = 0; complain(0, " + r + ") = 0; about(0, 4) = 1");
            edge(1, HARM, BENCH, "rule(" + other + ", 0, 2, 0) = 1;",
                "post(0, 50, 0) = 0; complain(0, " + other + ") = 0; post(0, 100, 0) = 1; complain(1, " + r + ") = 1;",
                "next(0) = 0; post(0, 101, 0) = 2; complain(2, " + r + ") = 2; next(0) = 2");
            edge(1, FOLLOWS, BENCH, guilty(0, 0, r), "hidden(0) = 1; writer(0, 3) = 0; level(0) = -4");
        }
    }

    private static void newJudges() {
        edge(1, SKILLS, each(0, 19, "told(#, 0) = 0;"), "post(0, 1, 0);", each(0, 7, "complain(0, #) = #;"),
            each(0, 7, "may(0, #) = 0; may(19, #) = 0;"), each(0, 19, "next(#) = -4;"));
        for (int half = 0; half < 2; half++) {
            StringBuilder kin = new StringBuilder();
            for (int j = 10 * half; j < 10 * half + 10; j++) {
                kin.append(each(0, 39, "kin(" + j + ", #, 1) = 0;"));
            }
            edge(1, KIN, kin.toString());
        }
        edge(1, LOAD, each(0, 19, "told(#, 1) = 2;"));
        edge(1, WEIGHT, each(0, 19, "told(#, 2) = 1;"));
        edge(1, REST, each(0, 19, "told(#, 4) = 0; rest(#, 0) = 0;"));
        edge(1, GIFT, each(0, 19, "told(#, 3) = 0;"));
    }

    private static void newLadder() {
        edge(1, FADE, BENCH, "rule(0, 0, 1, 2);", guilty(0, 0, 0), "tick(99); writer(0, 0) = 1; tick(1); writer(0, 0) = 0");
        edge(1, QUIET, BENCH, "rule(0, 0, 1, 2);", guilty(0, 0, 0), guilty(1, 0, 0),
            "tick(9); writer(0, 1) = 1; tick(1); writer(0, 1) = 0");
    }

    private static void tick() {
        edge(2, TICKS, "tick(1) = 1; tick(1000) = 1001;", none("tick(#)", "0", "1001", "-1", "-1000", "MIN", "MAX"),
            "count(5) = 1001; tick(2) = 1003");
        edge(2, TICK, none("tick(#)", "0"), "tick(1) = 1; tick(1) = 2");
        edge(2, "An object is used for at most 512 calls after it has been made; what later calls answer is free.",
            each(1, 512, "tick(1000) = #000;"));
    }

    private static void rule() {
        edge(3, RULES, BENCH, "rule(0, 1, 1, 2) = 1; rule(7, 2, 1, 2) = 1;",
            none("rule(#, 0, 100, 1)", "-1", "8", "MIN", "MAX", "16", "-8"),
            "post(0, 1, 0); complain(0, 0) = 0; about(0, 4) = 3; complain(0, 7) = 1; about(1, 4) = 5;",
            "complain(0, 1) = 2; about(2, 4) = 1; next(0) = 0");
        edge(3, GRADE, BENCH, "post(0, 1, 0); rule(3, 0, 1, 0) = 1; complain(0, 3) = 0; about(0, 4) = 1;",
            "rule(4, 1, 1, 0) = 1; complain(0, 4) = 1; about(1, 4) = 3;",
            "rule(5, 2, 1, 0) = 1; complain(0, 5) = 2; about(2, 4) = 5;",
            "rule(6, 1, 1, 0);", none("rule(6, #, 1, 0)", "-1", "3", "MIN", "MAX"), "complain(0, 6) = 3; about(3, 4) = 3");
        edge(3, HARM, BENCH, "post(0, 100, 0) = 0; complain(0, 0) = 0; post(0, 1, 0) = 1; complain(1, 1) = 1;",
            "rule(0, 0, 1, 0) = 1; rule(1, 0, 100, 0) = 1; next(0) = 0;",
            none("rule(0, 0, #, 0)", "0", "101", "-1", "MIN", "MAX"), none("rule(1, 0, #, 0)", "0", "101"),
            "next(0) = 0; post(0, 2, 0) = 2; complain(2, 1) = 2; next(0) = 2");
        edge(3, FOLLOWS, BENCH, "rule(0, 0, 1, 0) = 1; rule(1, 0, 1, 1) = 1; rule(2, 0, 1, 2) = 1;",
            guilty(0, 0, 0), guilty(1, 1, 1), guilty(2, 2, 2),
            none("rule(0, 0, 1, #)", "-1", "3", "MIN", "MAX"), none("rule(1, 0, 1, #)", "-1", "3"),
            none("rule(2, 0, 1, #)", "-1", "3"), each(0, 2, "hidden(#) = 1;"),
            "writer(0, 3) = 0; writer(1, 3) = 1; writer(2, 3) = 1; level(0) = -4; level(1) = -4; level(2) = 0");
        edge(3, "A RULE becomes so: 1. NONE.", BENCH, "rule(0, 1, 10, 1) = 1;",
            "rule(0, 3, 20, 2) = -1; rule(0, 2, 0, 2) = -1; rule(0, 2, 20, 3) = -1; rule(8, 2, 20, 2) = -1;",
            "post(0, 10, 0) = 0; complain(0, 0) = 0; about(0, 4) = 3; rule(1, 0, 100, 0);",
            "post(0, 1, 0) = 1; complain(1, 1) = 1; next(0) = 0; post(0, 2, 0) = 2; complain(2, 1) = 2; next(0) = 2;",
            votes(2, 0, "N", 1), votes(0, 0, "GGG", 2), "writer(0, 3) = 1; level(0) = -4");
    }

    private static void ladderFade() {
        String strikes = BENCH + "rule(0, 0, 1, 2);";
        edge(4, FADE, strikes, "ladder(1, 5) = 1;", guilty(0, 0, 0), "writer(0, 0) = 1; tick(1); writer(0, 0) = 0");
        edge(4, FADE, strikes, "ladder(10000, 5) = 1;", guilty(0, 0, 0), times(9, "tick(1000);"),
            "tick(999); writer(0, 0) = 1; tick(1); writer(0, 0) = 0");
        edge(4, FADE, strikes, "ladder(3, 5) = 1;", none("ladder(#, 7)", "0", "10001", "-1", "MIN", "MAX"),
            guilty(0, 0, 0), "tick(2); writer(0, 0) = 1; tick(1); writer(0, 0) = 0");
        edge(4, "FADE and QUIET: 1. NONE.", strikes, "ladder(20, 5) = 1; ladder(30, 0) = -1; ladder(0, 8) = -1;",
            guilty(0, 0, 0), guilty(1, 0, 0), "tick(4); writer(0, 1) = 1; tick(1); writer(0, 1) = 0;",
            "tick(14); writer(0, 0) = 2; tick(1); writer(0, 0) = 0");
    }

    private static void ladderQuiet() {
        String strikes = BENCH + "rule(0, 0, 1, 2);";
        String two = guilty(0, 0, 0) + guilty(1, 0, 0);
        edge(4, QUIET, strikes, "ladder(50, 1) = 1;", two, "writer(0, 1) = 1; tick(1); writer(0, 1) = 0");
        edge(4, QUIET, strikes, "ladder(50, 1) = 1;", two, guilty(2, 0, 0),
            "tick(1); writer(0, 1) = 1; tick(1); writer(0, 1) = 0");
        edge(4, QUIET, strikes, "ladder(50, 10000) = 1;", two, times(9, "tick(1000);"),
            "tick(999); writer(0, 1) = 1; tick(1); writer(0, 1) = 0");
        edge(4, QUIET, strikes, "ladder(50, 10000) = 1;", two, guilty(2, 0, 0), times(19, "tick(1000);"),
            "tick(999); writer(0, 1) = 1; tick(1); writer(0, 1) = 0");
        edge(4, QUIET, strikes, "ladder(50, 3) = 1;", none("ladder(60, #)", "0", "10001", "-1", "MIN", "MAX"), two,
            "tick(2); writer(0, 1) = 1; tick(1); writer(0, 1) = 0");
    }

    private static void due() {
        edge(5, GRADE, "due(0, 4) = 10; due(1, 5) = 20; due(2, 6) = 30;", none("due(#, 7)", "-1", "3", "MIN", "MAX"),
            "due(0, 1) = 4; due(1, 1) = 5; due(2, 1) = 6");
        for (int grade = 0; grade < 3; grade++) {
            String due = "due(" + grade + ", #)";
            edge(5, "DUE of a GRADE: what it was. NONE.", due.replace("#", "1") + " = " + (10 + 10 * grade) + ";",
                due.replace("#", "1000") + " = 1;", none(due, "0", "1001", "-1", "MIN", "MAX"),
                due.replace("#", "1000") + " = 1000");
            String open = "rule(0, " + grade + ", 1, 0);" + opened(0, 0, 0);
            edge(5, DUE, open, due.replace("#", "1") + ";", none(due, "0", "1001"),
                "tick(1); late() = -4; tick(1); late() = 0; about(0, 6) = 1");
            edge(5, DUE, open, due.replace("#", "1000") + ";", none(due, "0", "1001"),
                "tick(1000); late() = -4; tick(1); late() = 0; about(0, 6) = 1");
        }
    }

    private static void limit() {
        edge(6, LIMIT_ANSWERS, "limit(0) = 100; limit(100) = 0;", none("limit(#)", "-1", "101", "MIN", "MAX"),
            "limit(7) = 100; limit(7) = 7");
        StringBuilder five = new StringBuilder(BENCH);
        for (int n = 0; n < 5; n++) {
            five.append(guilty(n, 0, 0));
        }
        String allAlone = five + each(0, 4, "known(#, 0) = -1;") + "told(0, 7) = 5;";
        edge(6, LIMIT_ANSWERS, allAlone, opened(5, 0, 0), "give(0) = 5; limit(0) = 100; told(0, 4) = 0; told(0, 3) = 1;",
            "known(0, 0) = 0; told(0, 4) = 1; told(0, 3) = 0");
        edge(6, LIMIT, allAlone, "told(0, 4) = 0; limit(99) = 100; known(0, 0) = 0; told(0, 4) = 1");
        edge(6, LIMIT, five.toString(), "limit(0) = 100; known(0, 1) = -1; told(0, 7) = 0; told(0, 4) = 0;",
            "known(0, 0) = 1; told(0, 7) = 1; told(0, 4) = 1");
        edge(6, LIMIT, five.toString(), "limit(20) = 100; limit(-1) = -1; limit(101) = -1; known(0, 0) = -1;",
            "told(0, 4) = 0; limit(19) = 20; known(0, 0) = 0; told(0, 4) = 1");
    }
}
