/** The edges of promises 9 to 14, 16 and 17: judge, kin, rest, next, give, undo, may, told. */
final class JudgesEdges extends Edges {
    private static final String JUDGE_ANSWERS = "SKILLS (0 .. 255), LOAD (0 .. 20), WEIGHT of a JUDGE: 1. (GIFTS that it "
        + "has stay.) NONE.";
    private static final String KIN_ANSWERS = "A WRITER is KIN of a JUDGE (1) or not (0) from now: what it was. NONE.";
    private static final String REST_ANSWERS = "A JUDGE RESTS (1; its GIFTS go back) or not (0): what it was. NONE.";
    private static final String NEXT_ANSWERS = "NEXT of a JUDGE. NONE. NOT: there is none.";
    private static final String GIVE_ANSWERS = "NEXT of a JUDGE becomes its GIFT: the CASE. NONE, NOT.";
    private static final String UNDO_ANSWERS = "The latest GIFT that is still one goes back: the CASE. NOT: there is none.";
    private static final String MAY_ANSWERS = "1 if a JUDGE MAY have a CASE, else 0. NONE.";
    private static final String TOLD_ANSWERS = "Of a JUDGE: 0 SKILLS, 1 LOAD, 2 WEIGHT, 3 GIFTS, 4 whether it RESTS, "
        + "5 VOTES in all, 6 DOUBT: ASKED of, 7 STOOD ALONE. NONE.";

    private static final String ASKED_OF = "DOUBT of a JUDGE: of its VOTES on CASES that were judged (each time apart, when "
        + "it voted), and on those that are KNOWN: how many were ASKED of, and how many STOOD ALONE";

    private JudgesEdges() {
    }

    static void all() {
        judge();
        judgeLoad();
        judgeGifts();
        kin();
        rest();
        next();
        give();
        undo();
        mayByCase();
        mayByJudge();
        told();
        toldDoubt();
    }

    private static void judge() {
        edge(9, JUDGES, "judge(0, 1, 3, 4) = 1; judge(19, 2, 5, 6) = 1;",
            none("judge(#, 7, 7, 7)", "-1", "20", "MIN", "MAX"),
            "told(0, 0) = 1; told(0, 1) = 3; told(0, 2) = 4; told(19, 0) = 2; told(19, 1) = 5; told(19, 2) = 6");
        edge(9, JUDGE_ANSWERS, "judge(0, 0, 1, 1) = 1; told(0, 0) = 0; judge(0, 255, 1, 1) = 1;",
            none("judge(0, #, 2, 2)", "-1", "256", "MIN", "MAX"), "told(0, 0) = 255; told(0, 1) = 1; told(0, 2) = 1");
        edge(9, JUDGE_ANSWERS, "judge(0, 1, 0, 1) = 1; told(0, 1) = 0; judge(0, 1, 20, 1) = 1;",
            none("judge(0, 2, #, 2)", "-1", "21", "MIN", "MAX"), "told(0, 0) = 1; told(0, 1) = 20; told(0, 2) = 1");
        edge(9, WEIGHT, BENCH, "judge(0, 255, 20, 10) = 1;", none("judge(0, 2, 2, #)", "0", "11", "-1", "MIN", "MAX"),
            "told(0, 0) = 255; told(0, 1) = 20; told(0, 2) = 10;", guilty(0, 0, 0), "judged(0, 1) = 10;",
            "judge(0, 255, 20, 1) = 1; told(0, 2) = 1;", guilty(1, 0, 0), "judged(1, 1) = 1");
        for (int r = 0; r < 8; r++) {
            StringBuilder alone = new StringBuilder("post(0, 1, 0); judge(0, " + (1 << r) + ", 20, 1) = 1;"
                + "judge(1, " + (255 - (1 << r)) + ", 20, 1) = 1;" + each(0, 7, "complain(0, #) = #;"));
            for (int c = 0; c < 8; c++) {
                alone.append("may(0, " + c + ") = " + (c == r ? 1 : 0) + "; may(1, " + c + ") = " + (c == r ? 0 : 1) + ";");
            }
            edge(9, SKILLS, alone.toString());
        }
    }

    private static void judgeLoad() {
        String cases = "";
        for (int n = 0; n < 22; n++) {
            cases += opened(n, 0, 0);
        }
        edge(9, LOAD, "judge(0, 1, 0, 1) = 1;", cases, "give(0) = -4; may(0, 0) = 0; judge(0, 1, 1, 1) = 1;",
            "give(0) = 21; give(0) = -4; told(0, 3) = 1");
        edge(9, LOAD, "judge(0, 1, 20, 1) = 1;", cases, times(20, "give(0);"), "give(0) = -4; told(0, 3) = 20; check() = 0");
        edge(9, JUDGE_ANSWERS, "judge(0, 1, 20, 1) = 1;", cases, times(20, "give(0);"),
            "judge(0, 1, 21, 1) = -1; give(0) = -4; told(0, 1) = 20");
    }

    private static void judgeGifts() {
        edge(9, GIFT, BENCH, opened(0, 0, 0), opened(1, 0, 0), opened(2, 0, 0), "give(0) = 2; give(0) = 1;",
            "judge(0, 0, 0, 5) = 1; told(0, 3) = 2; about(2, 5) = 1; about(1, 5) = 1; count(3) = 2;",
            "may(0, 0) = 0; vote(0, 2, 1) = 2; judged(2, 1) = 5; undo() = 1");
        edge(9, JUDGE_ANSWERS, BENCH, opened(0, 0, 0), opened(1, 0, 0), opened(2, 0, 0), "give(0) = 2; give(0) = 1;",
            "judge(0, 255, 1, 1) = 1; told(0, 3) = 2; give(0) = -4; vote(0, 2, 1) = 2; give(0) = -4;",
            "vote(0, 1, 0) = 1; give(0) = 0; told(0, 3) = 1");
    }

    private static void kin() {
        edge(10, JUDGES, "kin(0, 5, 1) = 0; kin(19, 5, 1) = 0;", none("kin(#, 5, 1)", "-1", "20", "MIN", "MAX"),
            each(1, 18, "kin(#, 5, 1) = 0;"), "kin(0, 5, 0) = 1; kin(19, 5, 0) = 1");
        edge(10, WRITERS, "kin(3, 0, 1) = 0; kin(3, 39, 1) = 0;",
            none("kin(3, #, 1)", "-1", "40", "64", "103", "MIN", "MAX"), each(1, 38, "kin(3, #, 0) = 0;"),
            "kin(3, 0, 0) = 1; kin(3, 39, 0) = 1; kin(3, 0, 0) = 0; kin(3, 39, 0) = 0");
        edge(10, KIN, BENCH, opened(0, 39, 0), opened(1, 7, 0), opened(2, 0, 0), "kin(0, 39, 1) = 0; may(0, 0) = 0;",
            "may(0, 1) = 1; may(0, 2) = 1; may(1, 0) = 1; kin(0, 0, 1) = 0; may(0, 2) = 0; may(0, 1) = 1;",
            "kin(0, 39, 0) = 1; may(0, 0) = 1; may(0, 2) = 0");
        edge(10, KIN_ANSWERS, BENCH, opened(0, 8, 0), "kin(0, 8, 0) = 0; kin(0, 8, 1) = 0; kin(0, 8, 1) = 1;",
            none("kin(0, 8, #)", "-1", "2", "MIN", "MAX"), "may(0, 0) = 0; kin(0, 8, 0) = 1; may(0, 0) = 1;",
            none("kin(0, 8, #)", "-1", "2"), "may(0, 0) = 1; kin(0, 8, 0) = 0");
        edge(10, KIN_ANSWERS, BENCH, opened(0, 8, 0), "give(0) = 0; kin(0, 8, 1) = 0; told(0, 3) = 1; vote(0, 0, 1) = 2");
    }

    private static void rest() {
        edge(11, JUDGES, "rest(0, 1) = 0; rest(19, 1) = 0;", none("rest(#, 1)", "-1", "20", "MIN", "MAX"),
            each(1, 18, "told(#, 4) = 0;"), "told(0, 4) = 1; told(19, 4) = 1");
        edge(11, REST, "rest(4, 0) = 0; told(4, 4) = 0; rest(4, 1) = 0; rest(4, 1) = 1; told(4, 4) = 1; rest(4, 0) = 1;",
            "told(4, 4) = 0; rest(4, 0) = 0");
        String gifts = BENCH + opened(0, 0, 0) + opened(1, 0, 0) + opened(2, 0, 0)
            + "give(0) = 2; give(1) = 1; give(0) = 0;";
        edge(11, REST_ANSWERS, gifts, none("rest(0, #)", "-1", "2", "MIN", "MAX"), "told(0, 4) = 0; told(0, 3) = 2;",
            "rest(0, 0) = 0; told(0, 3) = 2; rest(0, 1) = 0; told(0, 3) = 0;", none("rest(0, #)", "-1", "2"),
            "told(0, 4) = 1");
        edge(11, GIFT, gifts, "rest(0, 1) = 0; count(3) = 1; told(1, 3) = 1; about(2, 5) = 0; about(0, 5) = 0;",
            "about(1, 5) = 1; vote(0, 2, 1) = -4; undo() = 1; undo() = -4; rest(0, 0) = 1; told(0, 3) = 0; give(0) = 2");
    }

    private static void next() {
        edge(12, JUDGES, BENCH, opened(0, 0, 0), "next(0) = 0; next(19) = 0;", none("next(#)", "-1", "20", "MIN", "MAX"));
        edge(12, NEXT_ANSWERS, BENCH, "next(0) = -4; next(20) = -1;", opened(0, 0, 0), "next(0) = 0; count(3) = 0;",
            "next(0) = 0;", votes(0, 0, "G", 2), "next(1) = -4; appeal(0) = 1; next(1) = 0; next(0) = -4");
        edge(12, NEXT, BENCH, "rule(1, 0, 10, 0); rule(2, 0, 5, 0); post(0, 40, 0) = 0; post(0, 4, 0) = 1;",
            "post(0, 8, 0) = 2; complain(1, 1) = 0; complain(2, 2) = 1; complain(0, 0) = 2; next(0) = 0; give(0) = 0;",
            "next(0) = 1; give(0) = 1; next(0) = 2; give(0) = 2; next(0) = -4");
        edge(12, NEXT, BENCH, "rule(1, 0, 10, 0); post(0, 40, 0) = 0; post(0, 4, 0) = 1; complain(0, 0) = 0;",
            "complain(1, 1) = 1; next(0) = 0; rule(1, 0, 11, 0); next(0) = 1; rule(1, 0, 10, 0); next(0) = 0;",
            "rule(1, 0, 9, 0); next(0) = 0; rule(0, 0, 1, 0); rule(1, 0, 100, 0); next(0) = 1");
        edge(12, REACH, BENCH, "rule(7, 0, 100, 0); post(0, 999, 0) = 0; post(0, 1000, 0) = 1; complain(0, 7) = 0;",
            "complain(1, 7) = 1; next(0) = 1");
        edge(12, HARM, BENCH, "rule(6, 0, 99, 0); rule(7, 0, 100, 0); post(0, 1000, 0) = 0; complain(0, 6) = 0;",
            "complain(0, 7) = 1; next(0) = 1");
        edge(12, MAY_ASKS, BENCH, opened(0, 0, 0), opened(1, 0, 0), "next(1) = 1; give(0) = 1; next(1) = 0; undo() = 1;",
            "next(1) = 1");
        edge(12, MAY_RULE, BENCH, opened(0, 0, 0), opened(1, 1, 1), "judge(0, 253, 20, 1); next(0) = 0; next(1) = 1;",
            "kin(1, 1, 1) = 0; next(1) = 0; kin(1, 0, 1) = 0; next(1) = -4");
        edge(12, MAY_JUDGE, BENCH, opened(0, 0, 0), "rest(0, 1) = 0; next(0) = -4; rest(0, 0) = 1; next(0) = 0;",
            "judge(0, 255, 0, 1); next(0) = -4; judge(0, 255, 1, 1); next(0) = 0; give(0) = 0; next(0) = -4");
    }

    private static void give() {
        edge(13, JUDGES, BENCH, opened(0, 0, 0), opened(1, 0, 0), none("give(#)", "-1", "20", "MIN", "MAX"),
            "count(3) = 0; give(0) = 1; give(19) = 0; told(19, 3) = 1");
        edge(13, GIVE_ANSWERS, BENCH, "give(0) = -4;", opened(0, 0, 0), "give(0) = 0; give(0) = -4; give(1) = -4;",
            "give(20) = -1; count(3) = 1; about(0, 5) = 1");
        edge(13, NEXT, BENCH, "rule(1, 0, 2, 0); post(0, 4, 0) = 0; post(0, 2, 0) = 1; complain(1, 1) = 0;",
            "complain(0, 0) = 1; post(0, 5, 0) = 2; complain(2, 0) = 2; give(0) = 2; give(0) = 0; give(0) = 1; give(0) = -4");
        edge(13, CASES, LAST_IS_NEXT, "judge(0, 255, 20, 1); give(0) = 399; told(0, 3) = 1; about(399, 5) = 1");
        edge(13, GIFT, BENCH, "rule(0, 1, 1, 0);", opened(0, 0, 0), "give(0) = 0; told(0, 3) = 1; give(0) = -4;",
            "vote(0, 0, 1) = 0; told(0, 3) = 0; give(0) = -4");
        edge(13, MAY_ASKS, BENCH, "rule(0, 1, 1, 0);", opened(0, 0, 0), "give(0) = 0; give(1) = 0; vote(0, 0, 1) = 0;",
            "give(2) = 0; give(3) = -4; undo() = 0; give(3) = 0; give(2) = -4; check() = 0");
        edge(13, MAY_JUDGE, "judge(0, 255, 2, 1);", opened(0, 0, 0), opened(1, 0, 0), opened(2, 0, 0),
            "give(0) = 2; give(0) = 1; give(0) = -4; told(0, 3) = 2; vote(0, 1, 0) = 1; give(0) = 0; give(0) = -4");
    }

    private static void undo() {
        edge(14, UNDO_ANSWERS, BENCH, "undo() = -4;", opened(0, 0, 0), "undo() = -4; give(0) = 0; undo() = 0; undo() = -4;",
            "count(3) = 0; told(0, 3) = 0; about(0, 5) = 0; give(0) = 0; undo() = 0");
        String four = BENCH + opened(0, 0, 0) + opened(1, 0, 0) + opened(2, 0, 0) + opened(3, 0, 0)
            + "give(0) = 3; give(1) = 2; give(0) = 1; give(2) = 0;";
        edge(14, UNDO_ANSWERS, four, "vote(2, 0, 1) = 2; undo() = 1; rest(1, 1) = 0; undo() = 3; undo() = -4");
        edge(14, GIFT, four, "vote(2, 0, 1) = 2; vote(0, 1, 0) = 1; undo() = 2; vote(1, 2, 1) = -4; told(1, 3) = 0;",
            "may(1, 2) = 1; undo() = 3; undo() = -4; about(0, 2) = 2");
        edge(14, CASES, LAST_IS_NEXT, "judge(0, 255, 20, 1); give(0) = 399; undo() = 399; about(399, 5) = 0; undo() = -4");
        edge(14, JUDGES, BENCH, opened(0, 0, 0), "give(19) = 0; undo() = 0; told(19, 3) = 0; may(19, 0) = 1");
    }

    private static void mayByCase() {
        edge(16, CASES, none("may(0, #)", "0", "-1", "MIN", "MAX"), opened(0, 0, 0), "may(0, 0) = 0; may(0, 1) = -1");
        edge(16, CASES, FULL_CASES, "judge(0, 128, 20, 1); may(0, 399) = 1; may(0, 398) = 0; may(0, 400) = -1");
        edge(16, MAY_STATE, BENCH, everyState(),
            "may(9, 0) = 1; may(9, 1) = 0; may(9, 2) = 0; may(9, 3) = 1; may(9, 4) = 0; may(9, 5) = 0");
        String three = BENCH + "rule(0, 1, 1, 0);" + opened(0, 0, 0);
        edge(16, MAY_ASKS, three, "give(0) = 0; give(1) = 0; may(5, 0) = 1; give(2) = 0; may(5, 0) = 0;",
            "vote(0, 0, 1) = 0; may(5, 0) = 0; undo() = 0; may(5, 0) = 1; vote(1, 0, 0) = 0; may(5, 0) = 1;",
            "give(2) = 0; may(5, 0) = 0");
        edge(16, MAY_ASKS, three, votes(0, 0, "GGG", 2), "may(5, 0) = 0; appeal(0) = 1;", each(3, 7, "may(9, 0) = 1; give(#) = 0;"),
            "may(9, 0) = 0; undo() = 0; may(9, 0) = 1; give(7) = 0;", each(3, 6, "vote(#, 0, 1) = 3; may(9, 0) = 0;"),
            "vote(7, 0, 1) = 5; may(9, 0) = 0");
        edge(16, MAY_ASKS, three, "judge(0, 255, 20, 3);", votes(0, 0, "GNN", 0), "about(0, 4) = 5; may(5, 0) = 1;",
            "give(3) = 0; may(5, 0) = 1; give(4) = 0; may(5, 0) = 0");
    }

    private static void mayByJudge() {
        edge(16, JUDGES, BENCH, opened(0, 0, 0), "may(0, 0) = 1; may(19, 0) = 1;",
            none("may(#, 0)", "-1", "20", "MIN", "MAX"));
        edge(16, MAY_ANSWERS, BENCH, opened(0, 0, 0), "may(0, 0) = 1; may(20, 1) = -1; give(0) = 0; may(0, 0) = 0;",
            "may(1, 0) = 0; count(3) = 1");
        edge(16, MAY_RULE, BENCH, opened(0, 39, 7), "may(0, 0) = 1; judge(0, 127, 20, 1); may(0, 0) = 0;",
            "judge(0, 128, 20, 1); may(0, 0) = 1; judge(0, 0, 20, 1); may(0, 0) = 0; judge(0, 255, 20, 1);",
            "kin(0, 38, 1) = 0; kin(0, 0, 1) = 0; kin(0, 7, 1) = 0; may(0, 0) = 1; kin(0, 39, 1) = 0; may(0, 0) = 0");
        String three = BENCH + "rule(0, 1, 1, 0);" + opened(0, 0, 0);
        edge(16, MAY_JUDGE, three, "may(0, 0) = 1; give(0) = 0; may(0, 0) = 0; undo() = 0; may(0, 0) = 1;",
            "give(0) = 0; vote(0, 0, 1) = 0; may(0, 0) = 0; may(1, 0) = 1;", votes(0, 1, "GG", 2),
            "appeal(0) = 1; may(0, 0) = 0; may(1, 0) = 0; may(2, 0) = 0; may(3, 0) = 1");
        edge(16, MAY_JUDGE, three, "rest(0, 1) = 0; may(0, 0) = 0; rest(0, 0) = 1; may(0, 0) = 1");
        edge(16, MAY_JUDGE, three, opened(1, 0, 0), "judge(0, 255, 0, 1); may(0, 0) = 0; judge(0, 255, 1, 1); may(0, 0) = 1;",
            "give(0) = 1; may(0, 0) = 0; judge(0, 255, 2, 1); may(0, 0) = 1; judge(0, 255, 1, 1); may(0, 0) = 0;",
            "vote(0, 1, 1) = 0; may(0, 0) = 1");
    }

    private static void told() {
        edge(17, JUDGES, "judge(0, 1, 3, 4); judge(19, 2, 5, 6); told(0, 0) = 1; told(19, 0) = 2;",
            none("told(#, 0)", "-1", "20", "MIN", "MAX"), none("told(#, 4)", "-1", "20"));
        edge(17, TOLD_ANSWERS, BENCH, opened(0, 0, 0), opened(1, 0, 0), opened(2, 0, 0), "judge(4, 129, 3, 7);",
            "give(4) = 2; give(4) = 1; vote(4, 2, 1) = 2; told(4, 0) = 129; told(4, 1) = 3; told(4, 2) = 7;",
            "told(4, 3) = 1; told(4, 4) = 0; told(4, 5) = 1; told(4, 6) = 1; told(4, 7) = 0; known(2, 0) = -1;",
            "told(4, 7) = 1;", none("told(4, #)", "-1", "8", "MIN", "MAX"));
        edge(17, SKILLS, "told(5, 0) = 0; judge(5, 255, 0, 1); told(5, 0) = 255; judge(5, 0, 0, 1); told(5, 0) = 0");
        edge(17, LOAD, "told(5, 1) = 2; judge(5, 0, 20, 1); told(5, 1) = 20; judge(5, 0, 0, 1); told(5, 1) = 0");
        edge(17, WEIGHT, "told(5, 2) = 1; judge(5, 0, 0, 10); told(5, 2) = 10; judge(5, 0, 0, 1); told(5, 2) = 1");
        edge(17, REST, "told(5, 4) = 0; rest(5, 1) = 0; told(5, 4) = 1; rest(5, 0) = 1; told(5, 4) = 0");
        String twenty = "";
        for (int n = 0; n < 20; n++) {
            twenty += opened(n, 0, 0);
        }
        edge(17, GIFT, BENCH, twenty, "told(5, 3) = 0;", each(1, 20, "give(5); told(5, 3) = #;"),
            "vote(5, 0, 1) = 2; told(5, 3) = 19; undo() = 1; told(5, 3) = 18; told(6, 3) = 0; rest(5, 1) = 0; told(5, 3) = 0");
    }

    private static void toldDoubt() {
        String three = BENCH + "rule(0, 1, 1, 0);" + opened(0, 0, 0);
        edge(17, DOUBT, three, votes(0, 0, "GN", 0), "told(0, 5) = 1; told(0, 6) = 0; told(0, 7) = 0;",
            votes(0, 2, "G", 2), "told(0, 6) = 1; told(0, 7) = 0; told(1, 6) = 1; told(1, 7) = 1; told(3, 6) = 0");
        edge(17, DOUBT, three, votes(0, 0, "GN", 0), "known(0, 0) = -1; told(0, 6) = 1; told(0, 7) = 1; told(1, 7) = 0;",
            "known(0, 1) = 0; told(0, 7) = 0; told(1, 7) = 1; known(0, -1) = 1; told(0, 6) = 0; told(1, 7) = 0");
        edge(17, DOUBT, three, votes(0, 0, "GGN", 2), "appeal(0) = 1;", votes(0, 3, "NNNN", 3),
            "told(3, 6) = 0; told(2, 6) = 1; told(2, 7) = 1;", votes(0, 7, "G", 4), "told(3, 6) = 1; told(3, 7) = 0;",
            "told(7, 7) = 1; told(0, 7) = 0; told(2, 7) = 1; known(0, 0) = -1; told(0, 7) = 1; told(2, 7) = 0;",
            "told(3, 7) = 0; told(7, 7) = 1; told(0, 6) = 1; told(7, 6) = 1");
        edge(17, ASKED_OF, three, "known(0, 1) = -1; told(0, 6) = 0;", votes(0, 0, "N", 0), "told(0, 6) = 1; told(0, 7) = 1;",
            "told(1, 6) = 0; told(0, 5) = 1;", votes(0, 1, "NN", 1), "told(0, 6) = 1; told(0, 7) = 1; told(2, 7) = 1");
    }
}
