/** Promises 25 to 29: writer, level, hidden, count, check. */
public final class WritersTest {
    private static final int NONE = ModeratorsBench.NONE;
    private static final int NOT = ModeratorsBench.NOT;

    public static void main(String[] args) {
        promise25Writer();
        promise25WriterSilent();
        promise25WriterGone();
        promise25WriterAsOfNow();
        promise25WriterWrong();
        promise26Level();
        promise26LevelOrder();
        promise26LevelFades();
        promise27Hidden();
        promise28Count();
        promise29Check();
        Due.end();
    }

    private static void promise25Writer() {
        ModeratorsBench x = Due.fullBench();
        x.rule(1, 0, 1, 1);
        x.rule(2, 0, 1, 2);
        Due.judgedCase(x, 7, 0, 1);
        Due.judgedCase(x, 7, 1, 1);
        Due.judgedCase(x, 7, 2, 1);
        Due.judgedCase(x, 7, 2, 0);
        Due.judgedCase(x, 8, 2, 1);
        Due.newCase(x, 7, 2);
        int[] due = {1, 0, 0, 2, 5, 3, -1};
        dueWriter(x, 7, due);
        dueWriter(x, 8, new int[] {1, 0, 0, 1, 1, 1, -1});
        dueWriter(x, 9, new int[] {0, 0, 0, 0, 0, 0, -1});
        Due.is("another rule, the same post", x.complain(0, 1), 6);
        Due.is("cleared and guilty", Due.votes(x, 5, 0, "N") + Due.votes(x, 6, 0, "G"), 3);
        dueWriter(x, 7, new int[] {1, 0, 0, 3, 5, 3, -1});
    }

    private static void dueWriter(ModeratorsBench x, int w, int[] due) {
        for (int what = 0; what < due.length; what++) {
            Due.is("writer(" + w + ", " + what + ")", x.writer(w, what), due[what]);
        }
    }

    private static void promise25WriterSilent() {
        ModeratorsBench x = Due.fullBench();
        x.rule(0, 0, 1, 2);
        x.ladder(1000, 10);
        x.tick(5);
        Due.judgedCase(x, 0, 0, 1);
        Due.is("LEVEL 0 makes nobody silent", x.writer(0, 1), 0);
        x.tick(1);
        Due.judgedCase(x, 0, 0, 1);
        Due.is("LEVEL 1 does, from its tick on", x.writer(0, 1), 1);
        x.tick(9);
        Due.is("for QUIET ticks", x.writer(0, 1), 1);
        x.tick(1);
        Due.is("and no longer", x.writer(0, 1), 0);
        Due.judgedCase(x, 0, 0, 1);
        x.tick(19);
        Due.is("LEVEL 2 for twice as many", x.writer(0, 1), 1);
        x.tick(1);
        Due.is("and no longer", x.writer(0, 1), 0);
        Due.judgedCase(x, 0, 0, 1);
        Due.is("LEVEL 3 makes GONE, not SILENT", x.writer(0, 1), 0);
        Due.is("GONE", x.writer(0, 2), 1);
        Due.is("a writer may post all the same", x.post(0, 1, 0), 4);
    }

    private static void promise25WriterGone() {
        ModeratorsBench x = Due.fullBench();
        x.rule(0, 0, 1, 2);
        for (int i = 0; i < 5; i++) {
            x.tick(2);
            Due.is("not gone ahead of the fourth", x.writer(0, 2), i < 4 ? 0 : 1);
            Due.judgedCase(x, 0, 0, 1);
        }
        Due.is("GONE from the fourth post's tick", x.writer(0, 6), 8);
        Due.is("strikes go on", x.writer(0, 0), 5);
        x.tick(1000);
        Due.is("GONE does not fade", x.writer(0, 2), 1);
        Due.is("strikes do", x.writer(0, 0), 0);
        Due.is("from the same tick", x.writer(0, 6), 8);
        ModeratorsBench y = Due.fullBench();
        y.rule(0, 0, 1, 2);
        for (int i = 0; i < 4; i++) {
            Due.judgedCase(y, 0, 0, 1);
        }
        Due.is("GONE from tick 0", y.writer(0, 6), 0);
        Due.is("GONE at tick 0", y.writer(0, 2), 1);
        y.tick(1);
        Due.judgedCase(y, 0, 0, 1);
        Due.is("a later LEVEL 3 changes nothing", y.writer(0, 6), 0);
        Due.is("another writer is not GONE", y.writer(1, 2), 0);
        Due.is("nor from any tick", y.writer(1, 6), -1);
        Due.is("warned by each", y.writer(0, 3), 5);
    }

    private static void promise25WriterAsOfNow() {
        ModeratorsBench x = Due.fullBench();
        x.rule(0, 0, 1, 2);
        x.ladder(50, 10);
        x.post(0, 1, 0);
        x.tick(3);
        x.post(0, 1, 0);
        x.tick(40);
        x.complain(1, 0);
        x.complain(0, 0);
        Due.votes(x, 0, 0, "G");
        Due.is("alone it is LEVEL 0", x.level(0), 0);
        Due.votes(x, 1, 0, "G");
        Due.is("behind the earlier post it is LEVEL 1", x.level(0), 1);
        Due.is("a STRIKE holds from its post's tick on", x.writer(0, 0), 2);
        Due.is("SILENT long ago", x.writer(0, 1), 0);
        x.tick(7);
        Due.is("the earlier one fades first", x.writer(0, 0), 1);
        x.tick(3);
        Due.is("then the later one", x.writer(0, 0), 0);
        x.ladder(50, 100);
        Due.is("SILENT by the QUIET of now", x.writer(0, 1), 1);
        x.appeal(1);
        Due.is("while it is appealed, too", x.writer(0, 1), 1);
        Due.votes(x, 1, 1, "NNN");
        Due.is("not once it is cleared", x.writer(0, 1), 0);
    }

    private static void promise25WriterWrong() {
        ModeratorsBench x = new ModeratorsBench();
        int[][] wrong = {{-1, 0}, {40, 0}, {0, -1}, {0, 7}, {Integer.MIN_VALUE, 3}, {0, Integer.MAX_VALUE}};
        for (int[] w : wrong) {
            Due.is("wrong writer", x.writer(w[0], w[1]), NONE);
        }
        Due.is("writer(40, 4)", x.writer(40, 4), NONE);
        Due.is("writer(39, 4)", x.writer(39, 4), 0);
    }

    private static void promise26Level() {
        ModeratorsBench x = Due.fullBench();
        x.rule(0, 0, 1, 2);
        Due.is("no case yet", x.level(0), NONE);
        int open = Due.newCase(x, 0, 0);
        Due.is("open", x.level(open), NOT);
        Due.votes(x, open, 0, "N");
        Due.is("cleared", x.level(open), NOT);
        int[] due = {0, 1, 2, 3, 3};
        for (int i = 0; i < due.length; i++) {
            int c = Due.judgedCase(x, 0, 0, 1);
            Due.is("level(" + c + ")", x.level(c), due[i]);
        }
        int other = Due.judgedCase(x, 1, 0, 1);
        Due.is("another writer's", x.level(other), 0);
        int mild = Due.judgedCase(x, 0, 1, 1);
        Due.is("no STRIKE follows", x.level(mild), NOT);
        x.rule(1, 0, 1, 2);
        Due.is("now it does", x.level(mild), 3);
        x.rule(0, 0, 1, 1);
        Due.is("now it is the only one", x.level(mild), 0);
        Due.is("and the others have none", x.level(1), NOT);
        Due.is("level(-1)", x.level(-1), NONE);
        Due.is("level(8)", x.level(8), NONE);
        Due.is("level(MAX)", x.level(Integer.MAX_VALUE), NONE);
    }

    private static void promise26LevelOrder() {
        ModeratorsBench x = Due.fullBench();
        for (int r = 0; r < 4; r++) {
            x.rule(r, 0, 1, 2);
        }
        x.post(0, 1, 0);
        x.post(0, 1, 0);
        Due.is("case 0: the later post", x.complain(1, 0), 0);
        Due.is("case 1: the earlier post", x.complain(0, 3), 1);
        Due.is("case 2: the earlier post", x.complain(0, 1), 2);
        Due.votes(x, 0, 0, "G");
        Due.votes(x, 1, 0, "G");
        Due.votes(x, 2, 0, "G");
        Due.is("by POST, then by CASE", x.level(1), 0);
        Due.is("by CASE, not by RULE", x.level(2), 1);
        Due.is("the later post at last", x.level(0), 2);
        x.appeal(1);
        Due.votes(x, 1, 1, "GGG");
        Due.is("guilty for good counts", x.level(2), 1);
        x.appeal(2);
        Due.is("appealed counts", x.level(0), 2);
        Due.votes(x, 2, 1, "NNN");
        Due.is("cleared for good does not", x.level(0), 1);
        Due.is("nor has it a LEVEL", x.level(2), NOT);
    }

    private static void promise26LevelFades() {
        ModeratorsBench x = Due.fullBench();
        x.rule(0, 0, 1, 2);
        x.ladder(10, 1);
        Due.judgedCase(x, 0, 0, 1);
        x.tick(9);
        Due.is("a STRIKE holds for FADE ticks, the first counted", x.level(Due.judgedCase(x, 0, 0, 1)), 1);
        x.tick(1);
        Due.is("and no longer", x.level(Due.judgedCase(x, 0, 0, 1)), 1);
        x.tick(8);
        Due.is("of those ahead two hold", x.level(Due.judgedCase(x, 0, 0, 1)), 2);
        x.tick(1);
        Due.is("now two others", x.level(Due.judgedCase(x, 0, 0, 1)), 2);
        x.tick(100);
        Due.is("none", x.level(Due.judgedCase(x, 0, 0, 1)), 0);
        x.ladder(11, 1);
        Due.is("by the FADE of now", x.level(2), 2);
        x.ladder(1, 1);
        Due.is("by the FADE of now", x.level(2), 0);
        Due.is("of one tick", x.level(Due.judgedCase(x, 0, 0, 1)), 1);
    }

    private static void promise27Hidden() {
        ModeratorsBench x = Due.fullBench();
        Due.is("no post yet", x.hidden(0), NONE);
        int c = Due.newCase(x, 0, 0);
        Due.is("open", x.hidden(0), 0);
        int d = x.complain(0, 1);
        Due.votes(x, c, 0, "N");
        Due.is("cleared", x.hidden(0), 0);
        Due.votes(x, d, 0, "G");
        Due.is("one of its cases is guilty", x.hidden(0), 1);
        x.appeal(d);
        Due.is("appealed", x.hidden(0), 1);
        Due.votes(x, d, 1, "NNN");
        Due.is("cleared for good", x.hidden(0), 0);
        int e = Due.judgedCase(x, 0, 0, 1);
        x.appeal(e);
        Due.votes(x, e, 1, "GGG");
        Due.is("guilty for good", x.hidden(1), 1);
        Due.is("another post is not", x.hidden(0), 0);
        Due.is("hidden(-1)", x.hidden(-1), NONE);
        Due.is("hidden(2)", x.hidden(2), NONE);
        Due.is("hidden(MIN)", x.hidden(Integer.MIN_VALUE), NONE);
    }

    private static void promise28Count() {
        ModeratorsBench x = Due.fullBench();
        x.tick(4);
        x.post(0, 1, 0);
        Due.newCase(x, 0, 0);
        Due.newCase(x, 0, 0);
        Due.newCase(x, 0, 0);
        Due.votes(x, 0, 0, "G");
        Due.votes(x, 1, 0, "N");
        x.give(1);
        dueCount(x, new int[] {4, 3, 1, 1, 2, 4});
        x.appeal(0);
        x.give(2);
        dueCount(x, new int[] {4, 3, 2, 2, 2, 4});
        x.vote(2, 0, 0);
        Due.votes(x, 0, 3, "NN");
        dueCount(x, new int[] {4, 3, 1, 1, 3, 4});
        for (int what : new int[] {-1, 6, Integer.MIN_VALUE, Integer.MAX_VALUE}) {
            Due.is("count(" + what + ")", x.count(what), NONE);
        }
    }

    private static void dueCount(ModeratorsBench x, int[] due) {
        for (int what = 0; what < due.length; what++) {
            Due.is("count(" + what + ")", x.count(what), due[what]);
        }
    }

    private static void promise29Check() {
        ModeratorsBench x = Due.fullBench();
        x.rule(0, 2, 1, 2);
        for (int i = 0; i < 22; i++) {
            Due.newCase(x, i, 0);
        }
        for (int i = 0; i < 22; i++) {
            x.give(0);
            Due.is("check while gifts are given", x.check(), 0);
        }
        for (int j = 1; j < 12; j++) {
            x.give(j);
            x.vote(j, 0, j % 2);
            Due.is("check while votes are cast", x.check(), 0);
        }
        x.vote(0, 0, 1);
        x.appeal(0);
        Due.is("check behind an appeal", x.check(), 0);
        for (int j = 0; j < 20; j++) {
            x.give(j);
            x.judge(j, 255, 0, 10);
            Due.is("check when loads fall", x.check(), 0);
        }
        x.rest(0, 1);
        x.undo();
        Due.is("check behind rest and undo", x.check(), 0);
    }
}
