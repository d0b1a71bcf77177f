/** The edges of promises 7 and 8: post, complain. */
final class PostsEdges extends Edges {
    private static final String POST_ANSWERS = "A new POST: its number. NONE, FULL.";
    private static final String CASE_ANSWERS = "A COMPLAINT of a POST by a RULE: the CASE (a new one, or that of these two; "
        + "in whatever state it is). NONE, FULL.";

    private PostsEdges() {
    }

    static void all() {
        post();
        postFull();
        complain();
        complainFull();
        complainInEveryState();
    }

    private static void post() {
        edge(7, WRITERS, "post(0, 1, 0) = 0; post(39, 1, 0) = 1;", none("post(#, 1, 0)", "-1", "40", "MIN", "MAX"),
            "count(0) = 2; writer(0, 4) = 1; writer(39, 4) = 1");
        edge(7, REACH, BENCH, "post(0, 1, 0) = 0; post(0, 1000, 0) = 1;",
            none("post(0, #, 0)", "0", "1001", "-1", "MIN", "MAX"), "count(0) = 2; post(0, 999, 0) = 2;",
            each(0, 2, "complain(#, 0) = #;"), "give(0) = 1; give(0) = 2; give(0) = 0");
        edge(7, MARKS, BENCH, "post(0, 1, 0) = 0; post(0, 1, 255) = 1;",
            none("post(0, 1, #)", "-1", "256", "MIN", "MAX", "511"), "count(0) = 2;", each(0, 1, "complain(#, 0) = #;"),
            "give(0) = 0; vote(0, 0, 1) = 2; like(1, 7) = 0; like(1, 8) = 1");
        edge(7, POST_ANSWERS, "post(40, 0, 256) = -1; post(5, 1, 0) = 0; post(5, 1, 0) = 1; count(0) = 2");
        edge(7, "(Both are told as of now, whoever was judged when; a WRITER may post all the same.)", BENCH,
            "rule(0, 0, 1, 2);", guilty(0, 0, 0), guilty(1, 0, 0), "writer(0, 1) = 1;", guilty(2, 0, 0),
            guilty(3, 0, 0), "writer(0, 2) = 1; post(0, 1, 0) = 4; writer(0, 4) = 5");
    }

    private static void postFull() {
        edge(7, POSTS, each(0, 298, "post(0, 1, 0) = #;"), "post(39, 1, 0) = 299; post(0, 1, 0) = -2;",
            "count(0) = 300; writer(0, 4) = 299; writer(39, 4) = 1; hidden(299) = 0; hidden(300) = -1");
        edge(7, POST_ANSWERS, FULL_POSTS, "post(39, 1, 0) = -2; post(40, 1, 0) = -1; post(0, 0, 0) = -1;",
            "post(0, 1, 256) = -1; count(0) = 300; writer(39, 4) = 0");
        edge(7, FIRST_NAMED, FULL_POSTS, none("post(#, 1, 0)", "-1", "40"), none("post(0, #, 0)", "0", "1001"),
            none("post(0, 1, #)", "-1", "256"), "post(0, 1, 0) = -2");
    }

    private static void complain() {
        edge(8, POSTS, none("complain(#, 0)", "0", "-1"), "post(0, 1, 0) = 0; complain(0, 0) = 0;",
            none("complain(#, 0)", "1", "-1", "MIN", "MAX"), "count(1) = 1");
        edge(8, POSTS, FULL_POSTS, "complain(299, 0) = 0; complain(0, 0) = 1; complain(300, 0) = -1;",
            "about(0, 0) = 299; about(1, 0) = 0; count(1) = 2");
        edge(8, RULES, "post(0, 1, 0) = 0; complain(0, 7) = 0; complain(0, 0) = 1;",
            none("complain(0, #)", "-1", "8", "MIN", "MAX"), "about(0, 1) = 7; about(1, 1) = 0; count(1) = 2");
        edge(8, ONE_CASE, "post(0, 1, 0); post(0, 1, 0); complain(0, 1) = 0; complain(0, 1) = 0; complain(1, 1) = 1;",
            "complain(0, 2) = 2; complain(1, 1) = 1; complain(0, 2) = 2; complain(0, 1) = 0; count(1) = 3;",
            "about(0, 3) = 3; about(1, 3) = 2; about(2, 3) = 2");
        edge(8, CASE_ANSWERS, "complain(0, 0) = -1; post(0, 1, 0) = 0; complain(0, 0) = 0; complain(0, 8) = -1;",
            "complain(1, 0) = -1; about(0, 3) = 1");
    }

    private static void complainFull() {
        edge(8, CASES, FULL_CASES, "about(399, 0) = 49; about(399, 1) = 7; about(400, 0) = -1;",
            "post(0, 1, 0) = 50; complain(50, 0) = -2; complain(50, 7) = -2; count(1) = 400; about(400, 0) = -1");
        edge(8, CASE_ANSWERS, FULL_CASES, "post(0, 1, 0) = 50; complain(50, 0) = -2;",
            "complain(49, 7) = 399; about(399, 3) = 2; complain(0, 0) = 0; about(0, 3) = 2; complain(50, 0) = -2");
        edge(8, FIRST_NAMED, FULL_CASES, "post(0, 1, 0) = 50;", none("complain(#, 0)", "51", "-1"),
            none("complain(50, #)", "8", "-1"), "complain(50, 0) = -2");
    }

    private static void complainInEveryState() {
        edge(8, STATES, BENCH, everyState(), each(0, 5, "complain(#, 0) = #; about(#, 2) = #; about(#, 3) = 2;"),
            "count(1) = 6; count(4) = 7; about(0, 4) = 1; about(3, 4) = 3");
        edge(8, CASE_ANSWERS, BENCH, everyState(), "tick(30);", each(0, 5, "complain(#, 0) = #;"),
            "about(0, 6) = 20; about(3, 6) = 20; count(2) = 2");
    }
}
