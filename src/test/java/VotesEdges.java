/** The edges of promise 15: vote. */
final class VotesEdges extends Edges {
    private static final String VOTE_ANSWERS = "A JUDGE votes on a GIFT (guilty 1, 0): the STATE of the CASE then. NONE; "
        + "NOT: it is none of its GIFTS.";
    private static final String ALL_THERE = "When a CASE has as many VOTES as it ASKS for";
    private static final String AGREED = "g being the WEIGHTS of those for GUILTY, n of the others together, it is AGREED if "
        + "3 g or 3 n is at least 2 g + 2 n";
    private static final String MORE = "if not, and it was asked for MORE fewer than twice (this time) and ASKS for at most "
        + "7: it ASKS for 2 more.";
    private static final String JUDGED = "Else it is judged: GUILTY if g is more than n, else CLEARED (for good, if it was "
        + "APPEALED).";
    /** Case 0 asks for 3 votes, or for 5. */
    private static final String THREE = BENCH + "rule(0, 1, 1, 0);" + opened(0, 0, 0);
    private static final String FIVE = BENCH + "rule(0, 2, 1, 0);" + opened(0, 0, 0);

    private VotesEdges() {
    }

    static void all() {
        refused();
        notAGift();
        allThere();
        agreed();
        asksForMore();
        asksForMoreBehindAppeal();
        judged();
        weight();
        looksBehindJudgement();
    }

    private static String weight(int judge, int weight) {
        return "judge(" + judge + ", 255, 20, " + weight + ") = 1;";
    }

    private static void refused() {
        String gift = BENCH + opened(0, 0, 0) + "give(0) = 0;";
        edge(15, JUDGES, gift, none("vote(#, 0, 1)", "-1", "20", "MIN", "MAX"), "about(0, 5) = 1; vote(0, 0, 1) = 2");
        edge(15, JUDGES, BENCH, opened(0, 0, 0), "give(19) = 0; vote(19, 0, 1) = 2; told(19, 5) = 1");
        edge(15, CASES, "judge(0, 255, 1, 1);", none("vote(0, #, 1)", "0", "-1", "MIN", "MAX"), opened(0, 0, 0),
            "give(0) = 0; vote(0, 1, 1) = -1; vote(0, 0, 1) = 2");
        edge(15, CASES, LAST_IS_NEXT, "judge(0, 255, 20, 1); give(0) = 399; vote(0, 400, 1) = -1; vote(0, 398, 1) = -4;",
            "vote(0, 399, 1) = 2; about(399, 2) = 2");
        edge(15, VOTE_ANSWERS, gift, none("vote(0, 0, #)", "-1", "2", "MIN", "MAX"), "told(0, 5) = 0; told(0, 3) = 1;",
            "about(0, 2) = 0; vote(0, 0, 0) = 1");
        edge(15, FIRST_NAMED, gift, "vote(1, 0, 2) = -1; vote(20, 0, 1) = -1; vote(1, 1, 1) = -1; vote(1, 0, 1) = -4");
    }

    private static void notAGift() {
        String two = BENCH + opened(0, 0, 0) + opened(1, 0, 0);
        edge(15, VOTE_ANSWERS, two, "vote(0, 0, 1) = -4; give(0) = 1; vote(0, 0, 1) = -4; vote(1, 1, 1) = -4;",
            "told(0, 5) = 0; told(1, 5) = 0; vote(0, 1, 1) = 2; vote(0, 1, 1) = -4; told(0, 5) = 1; judged(1, 0) = 1");
        edge(15, GIFT, two, "give(0) = 1; undo() = 1; vote(0, 1, 1) = -4; give(0) = 1; rest(0, 1) = 0; vote(0, 1, 1) = -4;",
            "rest(0, 0) = 1; vote(0, 1, 1) = -4; give(0) = 1; vote(0, 1, 1) = 2; told(0, 3) = 0; count(3) = 0");
        edge(15, STATES, BENCH, everyState(), each(0, 5, "vote(9, #, 1) = -4; about(#, 2) = #;"));
    }

    private static void allThere() {
        edge(15, ALL_THERE, BENCH, opened(0, 0, 0), votes(0, 0, "N", 1), "judged(0, 0) = 1; count(4) = 1");
        edge(15, ALL_THERE, THREE, votes(0, 0, "GG", 0), "judged(0, 0) = -4; count(4) = 0;", votes(0, 2, "G", 2),
            "judged(0, 0) = 3; count(4) = 1");
        edge(15, ASKS, FIVE, "rule(0, 0, 1, 0);", votes(0, 0, "NNNN", 0), "judged(0, 0) = -4;", votes(0, 4, "N", 1),
            "judged(0, 0) = 5");
        edge(15, APPEALED, BENCH, guilty(0, 0, 0), "appeal(0) = 1;", votes(0, 1, "NN", 3), "judged(0, 0) = 1;",
            votes(0, 3, "N", 4), "judged(0, 0) = 3; judged(0, 1) = 0; judged(0, 2) = 3");
    }

    private static void agreed() {
        edge(15, AGREED, THREE, votes(0, 0, "GGN", 2), "judged(0, 1) = 2; judged(0, 2) = 1");
        edge(15, AGREED, THREE, votes(0, 0, "NGN", 1), "judged(0, 1) = 1; judged(0, 2) = 2");
        edge(15, AGREED, THREE, weight(0, 4), votes(0, 0, "GNN", 2));
        edge(15, AGREED, THREE, weight(0, 4), votes(0, 0, "NGG", 1));
        edge(15, AGREED, THREE, weight(0, 3), votes(0, 0, "GNN", 0), "about(0, 4) = 5");
        edge(15, AGREED, THREE, weight(0, 3), votes(0, 0, "NGG", 0), "about(0, 4) = 5");
        edge(15, AGREED, THREE, weight(0, 10), weight(1, 10), weight(2, 10), votes(0, 0, "GGN", 2));
        edge(15, AGREED, THREE, weight(0, 10), weight(1, 9), weight(2, 10), votes(0, 0, "GGN", 0));
        edge(15, AGREED, THREE, weight(0, 10), weight(1, 10), weight(2, 9), votes(0, 0, "NNG", 1));
        edge(15, AGREED, THREE, weight(0, 10), weight(1, 9), weight(2, 10), votes(0, 0, "NNG", 0));
        edge(15, AGREED, FIVE, votes(0, 0, "GGGNG", 2));
        edge(15, AGREED, FIVE, votes(0, 0, "GGGNN", 0), "about(0, 4) = 7;", votes(0, 5, "GG", 2), "judged(0, 0) = 7");
    }

    private static void asksForMore() {
        String twice = THREE + weight(0, 3) + votes(0, 0, "GNN", 0) + "about(0, 4) = 5;" + votes(0, 3, "GN", 0)
            + "about(0, 4) = 7; count(4) = 0;";
        edge(15, MORE, twice, votes(0, 5, "GN", 2), "about(0, 4) = 0; judged(0, 0) = 7; judged(0, 1) = 5; judged(0, 2) = 4");
        edge(15, MORE, twice, votes(0, 5, "NN", 1), "judged(0, 0) = 7; judged(0, 1) = 4; judged(0, 2) = 5");
        edge(15, MORE, FIVE, votes(0, 0, "GGGNN", 0), "about(0, 4) = 7;", votes(0, 5, "GN", 0), "about(0, 4) = 9;",
            votes(0, 7, "GN", 2), "judged(0, 0) = 9; judged(0, 1) = 5; judged(0, 2) = 4; may(9, 0) = 0");
    }

    private static void asksForMoreBehindAppeal() {
        edge(15, MORE, FIVE, votes(0, 0, "GGGGG", 2), "appeal(0) = 1; about(0, 4) = 7;", votes(0, 5, "GGGGNNN", 3),
            "about(0, 4) = 9;", votes(0, 12, "GN", 5), "judged(0, 0) = 9");
        edge(15, MORE, FIVE, votes(0, 0, "GGGNNGG", 2), "appeal(0) = 1; about(0, 4) = 9;", votes(0, 7, "GGGGGNNNN", 5),
            "judged(0, 0) = 9; judged(0, 1) = 5");
        edge(15, MORE, BENCH, guilty(0, 0, 0), "appeal(0) = 1;", weight(1, 3), votes(0, 1, "GNN", 3), "about(0, 4) = 5;",
            votes(0, 4, "GN", 3), "about(0, 4) = 7;", votes(0, 6, "GN", 5), "judged(0, 0) = 7");
    }

    private static void judged() {
        String even = THREE + weight(0, 3) + votes(0, 0, "GNN", 0) + votes(0, 3, "NN", 0);
        edge(15, JUDGED, even, weight(5, 2), votes(0, 5, "GN", 1), "judged(0, 1) = 5; judged(0, 2) = 5");
        edge(15, JUDGED, even, weight(5, 3), votes(0, 5, "GN", 2), "judged(0, 1) = 6; judged(0, 2) = 5");
        String evenAppeal = BENCH + guilty(0, 0, 0) + "appeal(0) = 1;" + weight(1, 3) + votes(0, 1, "GNN", 3)
            + votes(0, 4, "NN", 3);
        edge(15, JUDGED, evenAppeal, weight(6, 2), votes(0, 6, "GN", 4), "judged(0, 1) = 5; judged(0, 2) = 5");
        edge(15, JUDGED, evenAppeal, weight(6, 3), votes(0, 6, "GN", 5), "judged(0, 1) = 6; judged(0, 2) = 5");
        edge(15, STATES, BENCH, cleared(0, 0, 0), guilty(1, 0, 0), "appeal(1) = 1;", votes(1, 1, "NN", 3), votes(1, 3, "N", 4),
            guilty(2, 0, 0), "appeal(2) = 1;", votes(2, 1, "GGG", 5));
    }

    private static void weight() {
        edge(15, WEIGHT, THREE, weight(0, 10), "give(0) = 0;", weight(0, 7), "vote(0, 0, 1) = 0;", weight(0, 2),
            votes(0, 1, "NG", 2), "judged(0, 1) = 8; judged(0, 2) = 1;", weight(0, 9), "judged(0, 1) = 8");
        edge(15, "A VOTE is GUILTY or not, with the WEIGHT that its JUDGE has then.", BENCH, opened(0, 0, 0), "give(0) = 0;",
            weight(0, 10), "vote(0, 0, 0) = 1;", weight(0, 1), "judged(0, 1) = 0; judged(0, 2) = 10");
    }

    /** Cases under rule 1 that judges 5, 6 and 7 judge, judge 5 against the others. */
    private static String stoodAlone(int cases) {
        StringBuilder all = new StringBuilder(BENCH + "rule(1, 1, 1, 0);");
        for (int n = 0; n < cases; n++) {
            all.append(opened(n, 0, 1)).append(votes(n, 5, "NGG", 2));
        }
        return all.toString();
    }

    private static void looksBehindJudgement() {
        edge(15, LIMIT, "limit(99);", stoodAlone(4), "told(5, 6) = 4; told(5, 7) = 4; told(5, 4) = 0;", opened(4, 0, 1),
            votes(4, 6, "GG", 0), opened(5, 0, 0), "give(5) = 5; give(5) = 4; vote(5, 4, 0) = 2; told(5, 4) = 1; told(5, 3) = 0;",
            "told(6, 4) = 0; told(7, 4) = 0; about(5, 5) = 0; next(8) = 5");
        edge(15, LIMIT, stoodAlone(5), "told(5, 7) = 5; told(5, 4) = 0; limit(100) = 100;", opened(5, 0, 0),
            votes(5, 0, "G", 2), "told(5, 4) = 0; limit(99) = 100;", opened(6, 0, 0), votes(6, 0, "G", 2), "told(5, 4) = 1");
        String oneOfFive = stoodAlone(1);
        for (int n = 1; n < 5; n++) {
            oneOfFive += opened(n, 0, 0) + votes(n, 5, "G", 2);
        }
        edge(15, LIMIT, "limit(20);", oneOfFive, "told(5, 6) = 5; told(5, 7) = 1; told(5, 4) = 0");
        edge(15, LIMIT, "limit(19);", oneOfFive, "told(5, 6) = 5; told(5, 7) = 1; told(5, 4) = 1");
        edge(15, LIMIT, "limit(16);", oneOfFive.replace("vote(5, 0, 0)", "vote(5, 0, 1)"), "told(5, 7) = 0; told(5, 4) = 0;",
            opened(5, 0, 1), votes(5, 5, "NGG", 2), "told(5, 6) = 6; told(5, 7) = 1; told(5, 4) = 1");
        edge(15, LIMIT, "limit(17);", oneOfFive.replace("vote(5, 0, 0)", "vote(5, 0, 1)"), "told(5, 7) = 0; told(5, 4) = 0;",
            opened(5, 0, 1), votes(5, 5, "NGG", 2), "told(5, 6) = 6; told(5, 7) = 1; told(5, 4) = 0");
        edge(15, LOOK, stoodAlone(5), "limit(0) = 100; rule(2, 1, 1, 0);", opened(5, 0, 2), votes(5, 0, "GG", 0),
            "told(5, 4) = 0;", votes(5, 2, "G", 2), "told(5, 4) = 1");
        edge(15, LOOK, stoodAlone(5), "limit(0) = 100;", opened(5, 0, 0), "give(0) = 5; vote(0, 5, 2) = -1; vote(1, 5, 1) = -4;",
            "told(5, 4) = 0; vote(0, 5, 1) = 2; told(5, 4) = 1");
    }
}
