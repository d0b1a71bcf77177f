/** Promises 1 to 6: a new object, tick, rule, ladder, due, limit. */
public final class SettingsTest {
    public static void main(String[] args) {
        promise1NewObject();
        promise2Tick();
        promise3Rule();
        promise3RuleAtFirst();
        promise4Ladder();
        promise4LadderAtFirst();
        promise5Due();
        promise6Limit();
        Due.end();
    }

    private static void promise1NewObject() {
        ModeratorsBench x = new ModeratorsBench();
        for (int what = 0; what <= 5; what++) {
            Due.is("new count(" + what + ")", x.count(what), 0);
        }
        for (int j = 0; j < 20; j++) {
            int[] first = {0, 2, 1, 0, 0, 0, 0, 0};
            for (int what = 0; what <= 7; what++) {
                Due.is("new told(" + j + ", " + what + ")", x.told(j, what), first[what]);
            }
            Due.is("new next(" + j + ")", x.next(j), ModeratorsBench.NOT);
            Due.is("new kin", x.kin(j, 39, 0), 0);
        }
        for (int w = 0; w < 40; w++) {
            for (int what = 0; what <= 6; what++) {
                Due.is("new writer(" + w + ", " + what + ")", x.writer(w, what), what == 6 ? -1 : 0);
            }
        }
        Due.is("new hidden(0)", x.hidden(0), ModeratorsBench.NONE);
        Due.is("new about(0, 0)", x.about(0, 0), ModeratorsBench.NONE);
        Due.is("new undo", x.undo(), ModeratorsBench.NOT);
        Due.is("new late", x.late(), ModeratorsBench.NOT);
        Due.is("new check", x.check(), 0);
        x.tick(5);
        x.post(0, 1, 0);
        ModeratorsBench y = new ModeratorsBench();
        Due.is("another object's TICK", y.count(5), 0);
        Due.is("another object's POSTS", y.count(0), 0);
    }

    private static void promise2Tick() {
        ModeratorsBench x = new ModeratorsBench();
        Due.is("tick(1)", x.tick(1), 1);
        Due.is("tick(1000)", x.tick(1000), 1001);
        for (int n : new int[] {0, -1, 1001, Integer.MIN_VALUE, Integer.MAX_VALUE}) {
            Due.is("tick(" + n + ")", x.tick(n), ModeratorsBench.NONE);
            Due.is("TICK behind a refused tick", x.count(5), 1001);
        }
        Due.is("tick(7)", x.tick(7), 1008);
    }

    private static void promise3Rule() {
        ModeratorsBench x = Due.fullBench();
        Due.is("rule(7, 2, 100, 2)", x.rule(7, 2, 100, 2), 1);
        Due.is("rule(0, 0, 1, 0)", x.rule(0, 0, 1, 0), 1);
        int c = Due.newCase(x, 0, 7);
        Due.is("grade 2 asks for", x.about(c, 4), 5);
        x.rule(7, 1, 100, 2);
        Due.is("a case asks by the grade when it came", x.about(c, 4), 5);
        Due.is("grade 1 asks for", x.about(Due.newCase(x, 0, 7), 4), 3);
        int[][] wrong = {{-1, 0, 1, 0}, {8, 0, 1, 0}, {7, -1, 1, 0}, {7, 3, 1, 0}, {7, 0, 0, 0}, {7, 0, 101, 0},
            {7, 0, 1, -1}, {7, 0, 1, 3}, {Integer.MIN_VALUE, 0, 1, 0}, {Integer.MAX_VALUE, 0, 1, 0}};
        for (int[] w : wrong) {
            Due.is("wrong rule", x.rule(w[0], w[1], w[2], w[3]), ModeratorsBench.NONE);
        }
        Due.is("a refused rule keeps its grade", x.about(Due.newCase(x, 0, 7), 4), 3);
        int other = x.complain(x.post(1, 99, 0), 0);
        Due.is("a refused rule keeps its harm", x.next(0), 0);
        x.rule(0, 0, 2, 0);
        Due.is("HARM is the one of now", x.next(0), other);
    }

    private static void promise3RuleAtFirst() {
        ModeratorsBench x = Due.fullBench();
        for (int r = 0; r < 8; r++) {
            int c = Due.newCase(x, r, r);
            Due.is("GRADE at first, by what is asked", x.about(c, 4), 1);
            Due.is("HARM at first is 1 for all: the first is next", x.next(0), c);
            Due.is("guilty", Due.giveAndVote(x, 0, c, 1), 2);
            Due.is("HIDDEN follows at first", x.writer(r, 3), 0);
            Due.is("no strike follows at first", x.level(c), ModeratorsBench.NOT);
            Due.is("hidden all the same", x.writer(r, 5), 1);
        }
        x.rule(2, 0, 1, 1);
        Due.is("WARNED follows now", x.writer(2, 3), 1);
        Due.is("but no strike", x.level(2), ModeratorsBench.NOT);
        x.rule(2, 0, 1, 2);
        Due.is("STRIKE warns, too", x.writer(2, 3), 1);
        Due.is("and strikes", x.level(2), 0);
    }

    private static void promise4Ladder() {
        ModeratorsBench x = Due.fullBench();
        x.rule(0, 0, 1, 2);
        Due.is("ladder(1, 1)", x.ladder(1, 1), 1);
        Due.is("ladder(10000, 10000)", x.ladder(10000, 10000), 1);
        Due.is("ladder(3, 4)", x.ladder(3, 4), 1);
        int[][] wrong = {{0, 1}, {10001, 1}, {1, 0}, {1, 10001}, {-1, 5}, {5, -1},
            {Integer.MAX_VALUE, 1}, {1, Integer.MIN_VALUE}};
        for (int[] w : wrong) {
            Due.is("wrong ladder", x.ladder(w[0], w[1]), ModeratorsBench.NONE);
        }
        Due.judgedCase(x, 0, 0, 1);
        Due.judgedCase(x, 0, 0, 1);
        x.tick(2);
        Due.is("strikes hold for 3 ticks, the first counted", x.writer(0, 0), 2);
        x.tick(1);
        Due.is("and no longer", x.writer(0, 0), 0);
        Due.is("silent for 4 ticks", x.writer(0, 1), 1);
        x.tick(1);
        Due.is("and no longer", x.writer(0, 1), 0);
        x.ladder(5, 5);
        Due.is("both are told as of now", x.writer(0, 0) * 10 + x.writer(0, 1), 21);
    }

    private static void promise4LadderAtFirst() {
        ModeratorsBench x = Due.fullBench();
        x.rule(0, 0, 1, 2);
        Due.judgedCase(x, 0, 0, 1);
        Due.judgedCase(x, 0, 0, 1);
        x.tick(9);
        Due.is("QUIET is 10 at first", x.writer(0, 1), 1);
        x.tick(1);
        Due.is("QUIET is 10 at first, not more", x.writer(0, 1), 0);
        x.tick(89);
        Due.is("FADE is 100 at first", x.writer(0, 0), 2);
        x.tick(1);
        Due.is("FADE is 100 at first, not more", x.writer(0, 0), 0);
    }

    private static void promise5Due() {
        ModeratorsBench x = new ModeratorsBench();
        Due.is("due(0, 1)", x.due(0, 1), 10);
        Due.is("due(1, 1000)", x.due(1, 1000), 20);
        Due.is("due(2, 5)", x.due(2, 5), 30);
        int[][] wrong = {{-1, 5}, {3, 5}, {0, 0}, {0, 1001}, {0, -7}, {Integer.MIN_VALUE, 5}, {1, Integer.MAX_VALUE}};
        for (int[] w : wrong) {
            Due.is("wrong due", x.due(w[0], w[1]), ModeratorsBench.NONE);
        }
        Due.is("due(0, 2)", x.due(0, 2), 1);
        Due.is("due(1, 2)", x.due(1, 2), 1000);
        Due.is("due(2, 2)", x.due(2, 2), 5);
    }

    private static void promise6Limit() {
        ModeratorsBench x = Due.fullBench();
        Due.is("limit(50)", x.limit(50), 100);
        for (int percent : new int[] {-1, 101, Integer.MIN_VALUE, Integer.MAX_VALUE}) {
            Due.is("wrong limit", x.limit(percent), ModeratorsBench.NONE);
        }
        Due.is("limit(100)", x.limit(100), 50);
        for (int i = 0; i < 5; i++) {
            x.known(Due.judgedCase(x, 0, 0, 1), 0);
        }
        Due.is("all five stood alone", x.told(0, 7), 5);
        Due.is("limit(0)", x.limit(0), 100);
        Due.is("nobody rests by this alone", x.told(0, 4), 0);
        x.known(0, 0);
        Due.is("but behind the next look", x.told(0, 4), 1);
        Due.is("limit(1)", x.limit(1), 0);
    }
}
