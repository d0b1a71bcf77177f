/** Promises 7 and 8: post, complain. */
public final class PostsTest {
    public static void main(String[] args) {
        promise7Post();
        promise7PostFull();
        promise8Complain();
        promise8ComplainInEveryState();
        promise8ComplainFull();
        Due.end();
    }

    private static void promise7Post() {
        ModeratorsBench x = new ModeratorsBench();
        Due.is("post(0, 1, 0)", x.post(0, 1, 0), 0);
        Due.is("post(39, 1000, 255)", x.post(39, 1000, 255), 1);
        int[][] wrong = {{-1, 1, 0}, {40, 1, 0}, {0, 0, 0}, {0, 1001, 0}, {0, 1, -1}, {0, 1, 256},
            {Integer.MIN_VALUE, 1, 0}, {0, Integer.MAX_VALUE, 0}, {0, 1, Integer.MIN_VALUE}};
        for (int[] w : wrong) {
            Due.is("wrong post", x.post(w[0], w[1], w[2]), ModeratorsBench.NONE);
        }
        Due.is("refused posts are none", x.count(0), 2);
        Due.is("the same post again is another", x.post(39, 1000, 255), 2);
        Due.is("posts of 39", x.writer(39, 4), 2);
        Due.is("posts of 0", x.writer(0, 4), 1);
    }

    private static void promise7PostFull() {
        ModeratorsBench x = new ModeratorsBench();
        for (int p = 0; p < 300; p++) {
            Due.is("post " + p, x.post(p % 40, 1 + p, p % 256), p);
        }
        Due.is("post beyond 300", x.post(0, 1, 0), ModeratorsBench.FULL);
        Due.is("NONE is named ahead of FULL", x.post(40, 1, 0), ModeratorsBench.NONE);
        Due.is("posts then", x.count(0), 300);
        Due.is("the last is there", x.hidden(299), 0);
        Due.is("no further one is", x.hidden(300), ModeratorsBench.NONE);
    }

    private static void promise8Complain() {
        ModeratorsBench x = new ModeratorsBench();
        Due.is("no post yet", x.complain(0, 0), ModeratorsBench.NONE);
        x.post(0, 1, 0);
        x.post(1, 1, 0);
        Due.is("complain(0, 7)", x.complain(0, 7), 0);
        Due.is("complain(1, 7)", x.complain(1, 7), 1);
        Due.is("complain(0, 0)", x.complain(0, 0), 2);
        Due.is("complain(0, 7) again", x.complain(0, 7), 0);
        Due.is("complain(0, 0) again", x.complain(0, 0), 2);
        Due.is("complain(0, 0) once more", x.complain(0, 0), 2);
        int[][] wrong = {{-1, 0}, {2, 0}, {0, -1}, {0, 8}, {Integer.MIN_VALUE, 0}, {0, Integer.MAX_VALUE}};
        for (int[] w : wrong) {
            Due.is("wrong complaint", x.complain(w[0], w[1]), ModeratorsBench.NONE);
        }
        Due.is("cases", x.count(1), 3);
        Due.is("complaints of 0", x.about(0, 3), 2);
        Due.is("complaints of 1", x.about(1, 3), 1);
        Due.is("complaints of 2", x.about(2, 3), 3);
        Due.is("post of 2", x.about(2, 0), 0);
        Due.is("rule of 0", x.about(0, 1), 7);
    }

    private static void promise8ComplainInEveryState() {
        ModeratorsBench x = Due.fullBench();
        int cleared = Due.judgedCase(x, 0, 0, 0);
        int guilty = Due.judgedCase(x, 0, 0, 1);
        Due.is("of a cleared case", x.complain(0, 0), cleared);
        Due.is("it stays cleared", x.about(cleared, 2), 1);
        Due.is("of a guilty case", x.complain(1, 0), guilty);
        Due.is("it stays guilty", x.about(guilty, 2), 2);
        x.appeal(guilty);
        Due.is("of an appealed case", x.complain(1, 0), guilty);
        Due.is("judged anew", Due.votes(x, guilty, 1, "NNN"), 4);
        Due.is("of a case cleared for good", x.complain(1, 0), guilty);
        Due.is("it stays so", x.about(guilty, 2), 4);
        Due.is("complaints of it", x.about(guilty, 3), 4);
        Due.is("cases", x.count(1), 2);
    }

    private static void promise8ComplainFull() {
        ModeratorsBench x = new ModeratorsBench();
        for (int p = 0; p < 51; p++) {
            x.post(0, 1, 0);
        }
        for (int c = 0; c < 400; c++) {
            Due.is("case " + c, x.complain(c / 8, c % 8), c);
        }
        Due.is("complaint beyond 400 cases", x.complain(50, 0), ModeratorsBench.FULL);
        Due.is("NONE is named ahead of FULL", x.complain(50, 8), ModeratorsBench.NONE);
        Due.is("a case that is there is found all the same", x.complain(49, 7), 399);
        Due.is("its complaints", x.about(399, 3), 2);
        Due.is("cases", x.count(1), 400);
        Due.is("check", x.check(), 0);
    }
}
