/** Promises 18 to 24: about, judged, appeal, known, late, like, unlike. */
public final class CasesTest {
    private static final int NONE = ModeratorsBench.NONE;
    private static final int NOT = ModeratorsBench.NOT;

    public static void main(String[] args) {
        promise18About();
        promise18AboutLate();
        promise19Judged();
        promise20Appeal();
        promise20AppealAsksForNineAtMost();
        promise21Known();
        promise21KnownLooksAtAllJudges();
        promise22Late();
        promise23Like();
        promise24Unlike();
        Due.end();
    }

    private static void promise18About() {
        ModeratorsBench x = Due.fullBench();
        x.rule(6, 1, 1, 0);
        x.post(0, 1, 0);
        int c = x.complain(x.post(3, 1, 0), 6);
        x.complain(1, 6);
        x.give(0);
        x.give(1);
        dueAbout(x, c, new int[] {1, 6, 0, 2, 3, 2, 0, 0});
        x.vote(0, c, 1);
        dueAbout(x, c, new int[] {1, 6, 0, 2, 3, 1, 0, 0});
        x.vote(1, c, 1);
        x.give(2);
        x.vote(2, c, 1);
        dueAbout(x, c, new int[] {1, 6, 2, 2, 0, 0, 0, 1});
        x.appeal(c);
        dueAbout(x, c, new int[] {1, 6, 3, 2, 5, 0, 0, 1});
        Due.votes(x, c, 3, "GGGGG");
        dueAbout(x, c, new int[] {1, 6, 5, 2, 0, 0, 0, 2});
        int[][] wrong = {{-1, 0}, {1, 0}, {0, -1}, {0, 8}, {Integer.MIN_VALUE, 0}, {0, Integer.MAX_VALUE}};
        for (int[] w : wrong) {
            Due.is("wrong about", x.about(w[0], w[1]), NONE);
        }
    }

    private static void dueAbout(ModeratorsBench x, int c, int[] due) {
        for (int what = 0; what < due.length; what++) {
            Due.is("about(" + c + ", " + what + ")", x.about(c, what), due[what]);
        }
    }

    private static void promise18AboutLate() {
        ModeratorsBench x = Due.fullBench();
        for (int grade = 0; grade < 3; grade++) {
            x.rule(grade, grade, 1, 0);
            Due.newCase(x, 0, grade);
        }
        x.tick(10);
        Due.is("not late at its DUE", x.about(0, 6), 0);
        x.tick(1);
        Due.is("late by 1", x.about(0, 6), 1);
        x.tick(9);
        Due.is("grade 1 at its DUE", x.about(1, 6), 0);
        x.tick(11);
        Due.is("grade 0 by 21", x.about(0, 6), 21);
        Due.is("grade 1 by 11", x.about(1, 6), 11);
        Due.is("grade 2 by 1", x.about(2, 6), 1);
        x.rule(2, 0, 1, 0);
        Due.is("by the grade when it came", x.about(2, 6), 1);
        x.due(2, 1);
        Due.is("by the DUE of now", x.about(2, 6), 30);
        Due.votes(x, 0, 0, "G");
        Due.is("0 once it is judged", x.about(0, 6), 0);
        x.tick(100);
        x.appeal(0);
        x.tick(12);
        Due.is("it waits from the appeal on", x.about(0, 6), 2);
        Due.votes(x, 0, 1, "GGG");
        Due.is("0 once it is judged for good", x.about(0, 6), 0);
    }

    private static void promise19Judged() {
        ModeratorsBench x = Due.fullBench();
        x.rule(0, 1, 1, 0);
        x.judge(1, 255, 20, 5);
        Due.is("no case yet", x.judged(0, 0), NONE);
        int c = Due.newCase(x, 0, 0);
        Due.is("never judged", x.judged(c, 0), NOT);
        Due.is("never judged, and no such thing", x.judged(c, 3), NONE);
        Due.votes(x, c, 0, "NG");
        Due.is("still not judged", x.judged(c, 1), NOT);
        Due.votes(x, c, 2, "N");
        Due.is("VOTES", x.judged(c, 0), 3);
        Due.is("g", x.judged(c, 1), 5);
        Due.is("n", x.judged(c, 2), 2);
        x.appeal(c);
        Due.votes(x, c, 3, "NNN");
        Due.is("the latest judgement is still the first: VOTES", x.judged(c, 0), 3);
        Due.is("g of it", x.judged(c, 1), 5);
        Due.votes(x, c, 6, "NG");
        Due.is("VOTES of the second", x.judged(c, 0), 5);
        Due.is("g of the second", x.judged(c, 1), 1);
        Due.is("n of the second", x.judged(c, 2), 4);
        int[][] wrong = {{-1, 0}, {1, 0}, {0, -1}, {0, 3}, {Integer.MAX_VALUE, 0}, {0, Integer.MIN_VALUE}};
        for (int[] w : wrong) {
            Due.is("wrong judged", x.judged(w[0], w[1]), NONE);
        }
    }

    private static void promise20Appeal() {
        ModeratorsBench x = Due.fullBench();
        x.rule(0, 0, 1, 2);
        Due.is("no case yet", x.appeal(0), NONE);
        int open = Due.newCase(x, 1, 0);
        Due.is("an open one", x.appeal(open), NOT);
        Due.votes(x, open, 0, "N");
        Due.is("a cleared one", x.appeal(open), NOT);
        int c = Due.judgedCase(x, 0, 0, 1);
        Due.is("a guilty one", x.appeal(c), 1);
        Due.is("its state", x.about(c, 2), 3);
        Due.is("its guilt stands: hidden", x.hidden(1), 1);
        Due.is("its guilt stands: strike", x.level(c), 0);
        Due.is("its guilt stands: warned", x.writer(0, 3), 1);
        Due.is("an appealed one", x.appeal(c), NOT);
        Due.is("judged anew", Due.votes(x, c, 1, "NNN"), 4);
        Due.is("its guilt is gone", x.hidden(1), 0);
        Due.is("one cleared for good", x.appeal(c), NOT);
        int d = Due.judgedCase(x, 0, 0, 1);
        x.appeal(d);
        Due.is("judged anew", Due.votes(x, d, 1, "GGG"), 5);
        Due.is("one guilty for good", x.appeal(d), NOT);
        Due.is("its guilt stands for good", x.hidden(2), 1);
        Due.is("appeal(-1)", x.appeal(-1), NONE);
        Due.is("appeal(3)", x.appeal(3), NONE);
        Due.is("appeal(MIN)", x.appeal(Integer.MIN_VALUE), NONE);
    }

    private static void promise20AppealAsksForNineAtMost() {
        ModeratorsBench x = Due.fullBench();
        x.rule(0, 2, 1, 0);
        int c = Due.newCase(x, 0, 0);
        Due.is("guilty by nine", Due.votes(x, c, 0, "GGGNNGNGN"), 2);
        x.appeal(c);
        Due.is("it asks for 9, not 11", x.about(c, 4), 9);
        Due.is("nine more, not agreed: no more are asked", Due.votes(x, c, 9, "GGGNNGNGN"), 5);
        int d = Due.newCase(x, 0, 0);
        Due.is("guilty by seven", Due.votes(x, d, 0, "GGGNNGG"), 2);
        x.appeal(d);
        Due.is("2 more than it asked for at last", x.about(d, 4), 9);
        ModeratorsBench y = Due.fullBench();
        int e = Due.judgedCase(y, 0, 0, 1);
        y.appeal(e);
        Due.votes(y, e, 1, "G");
        y.judge(2, 255, 20, 2);
        Due.is("2 against 2", Due.votes(y, e, 2, "NG"), 3);
        Due.is("more the first time", y.about(e, 4), 5);
        Due.is("3 against 3", Due.votes(y, e, 4, "GN"), 3);
        Due.is("more the second time", y.about(e, 4), 7);
        Due.is("not a third time", Due.votes(y, e, 6, "GN"), 4);
    }

    private static void promise21Known() {
        ModeratorsBench x = Due.fullBench();
        Due.is("no case yet", x.known(0, 1), -5);
        int c = Due.newCase(x, 0, 0);
        Due.is("known(c, 1)", x.known(c, 1), -1);
        Due.is("known(c, 0)", x.known(c, 0), 1);
        int[][] wrong = {{-1, 0}, {1, 0}, {0, -2}, {0, 2}, {Integer.MIN_VALUE, 0}, {0, Integer.MAX_VALUE}};
        for (int[] w : wrong) {
            Due.is("wrong known", x.known(w[0], w[1]), -5);
        }
        Due.is("known(c, -1)", x.known(c, -1), 0);
        Due.is("known(c, -1)", x.known(c, -1), -1);
        x.known(c, 0);
        Due.is("a vote is not bent by it", Due.votes(x, c, 0, "G"), 2);
        Due.is("nor is the case hidden by less", x.hidden(0), 1);
    }

    private static void promise21KnownLooksAtAllJudges() {
        ModeratorsBench x = Due.fullBench();
        for (int c = 0; c < 5; c++) {
            Due.judgedCase(x, 0, 0, 1);
        }
        x.limit(20);
        x.known(0, 0);
        Due.is("1 of 5 is not more than 20 in 100", x.told(0, 4), 0);
        Due.newCase(x, 0, 0);
        x.give(0);
        x.limit(19);
        Due.is("refused: nobody is looked at", x.known(99, 0), -5);
        Due.is("so it does not rest", x.told(0, 4), 0);
        x.known(0, 0);
        Due.is("1 of 5 is more than 19 in 100", x.told(0, 4), 1);
        Due.is("its gift went back", x.count(3), 0);
        x.rest(0, 0);
        x.known(0, -1);
        Due.is("not known any more: it stood alone nowhere", x.told(0, 4), 0);
        ModeratorsBench y = Due.fullBench();
        y.limit(0);
        for (int c = 0; c < 5; c++) {
            Due.is("fewer than five votes are not enough", y.told(0, 4), 0);
            y.known(Due.judgedCase(y, 0, 0, 1), 0);
        }
        Due.is("five are", y.told(0, 4), 1);
    }

    private static void promise22Late() {
        ModeratorsBench x = Due.fullBench();
        x.rule(1, 1, 1, 0);
        Due.newCase(x, 0, 1);
        x.tick(5);
        Due.newCase(x, 0, 0);
        Due.newCase(x, 0, 0);
        x.tick(10);
        Due.is("none is late", x.late(), NOT);
        x.tick(1);
        Due.is("the first of two", x.late(), 1);
        x.due(1, 10);
        Due.is("the one by most", x.late(), 0);
        x.due(1, 15);
        Due.is("of three that are late by 1 the first", x.late(), 0);
        Due.votes(x, 0, 0, "GGG");
        Due.is("judged ones are not late", x.late(), 1);
        Due.votes(x, 1, 0, "G");
        Due.votes(x, 2, 0, "G");
        x.tick(900);
        Due.is("none is open", x.late(), NOT);
        x.appeal(2);
        x.tick(10);
        Due.is("an appealed one at its DUE", x.late(), NOT);
        x.tick(1);
        Due.is("an appealed one", x.late(), 2);
    }

    private static void promise23Like() {
        ModeratorsBench x = Due.fullBench();
        int[] marks = {0, 1, 3, 7, 255, 0, 0};
        for (int i = 0; i < marks.length; i++) {
            x.complain(x.post(0, 1, marks[i]), i == 6 ? 1 : 0);
        }
        Due.is("open ones are not like", x.like(0, 8), 0);
        for (int i = 0; i < marks.length; i++) {
            Due.votes(x, i, 0, i % 2 == 0 ? "G" : "N");
        }
        int[] due = {1, 2, 3, 4, 4, 4, 4, 4, 5};
        for (int d = 0; d <= 8; d++) {
            Due.is("like(0, " + d + ")", x.like(0, d), due[d]);
        }
        Due.is("of another rule", x.like(6, 8), 0);
        x.appeal(2);
        Due.is("appealed ones are not like", x.like(0, 8), 4);
        Due.is("whatever its own state", x.like(2, 1), 2);
        Due.votes(x, 2, 1, "GGG");
        Due.is("for good or not", x.like(0, 8), 5);
        int[][] wrong = {{-1, 0}, {7, 0}, {0, -1}, {0, 9}, {Integer.MIN_VALUE, 0}, {0, Integer.MAX_VALUE}};
        for (int[] w : wrong) {
            Due.is("wrong like", x.like(w[0], w[1]), NONE);
            Due.is("wrong unlike", x.unlike(w[0], w[1]), NONE);
        }
    }

    private static void promise24Unlike() {
        ModeratorsBench x = Due.fullBench();
        for (int i = 0; i < 6; i++) {
            x.complain(x.post(0, 1, i == 5 ? 255 : 0), 0);
        }
        Due.is("of none", x.unlike(0, 8), 0);
        Due.votes(x, 0, 0, "G");
        Due.votes(x, 1, 0, "G");
        Due.votes(x, 2, 0, "G");
        Due.is("all are guilty", x.unlike(0, 8), 0);
        Due.votes(x, 3, 0, "N");
        Due.is("1 cleared of 2 guilty (without itself)", x.unlike(0, 8), 1);
        Due.is("from the cleared one: all guilty", x.unlike(3, 8), 0);
        Due.votes(x, 4, 0, "N");
        Due.is("as many are both", x.unlike(0, 8), 0);
        Due.is("1 cleared of 3 guilty", x.unlike(3, 8), 1);
        Due.votes(x, 5, 0, "N");
        Due.is("2 guilty of 3 cleared", x.unlike(0, 8), 2);
        Due.is("by marks", x.unlike(0, 7), 0);
        Due.is("by no mark at all", x.unlike(3, 0), 1);
        x.appeal(1);
        Due.is("an appealed one is not like", x.unlike(0, 8), 1);
        Due.votes(x, 1, 1, "NNN");
        Due.is("judged at last as cleared", x.unlike(0, 7), 1);
        Due.is("among 1 guilty of 4 cleared", x.unlike(0, 8), 1);
        Due.is("from the other guilty one", x.unlike(2, 8), 1);
        Due.is("from a cleared one: 2 guilty of 3", x.unlike(3, 8), 2);
    }
}
