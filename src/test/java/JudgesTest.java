/** Promises 9 to 17: judge, kin, rest, next, give, undo, vote, may, told. */
public final class JudgesTest {
    private static final int NONE = ModeratorsBench.NONE;
    private static final int NOT = ModeratorsBench.NOT;

    public static void main(String[] args) {
        promise9Judge();
        promise10Kin();
        promise11Rest();
        promise12Next();
        promise13Give();
        promise14Undo();
        promise15VoteRefused();
        promise15VoteAgreed();
        promise15VoteAsksForMore();
        promise15VoteWithWeights();
        promise15VoteBehindAppeal();
        promise15VoteLooksAtAllJudges();
        promise16May();
        promise17Told();
        promise17Doubt();
        Due.end();
    }

    private static void promise9Judge() {
        ModeratorsBench x = new ModeratorsBench();
        Due.is("judge(0, 255, 20, 10)", x.judge(0, 255, 20, 10), 1);
        Due.is("judge(19, 0, 0, 1)", x.judge(19, 0, 0, 1), 1);
        int[][] wrong = {{-1, 1, 1, 1}, {20, 1, 1, 1}, {0, -1, 1, 1}, {0, 256, 1, 1}, {0, 1, -1, 1}, {0, 1, 21, 1},
            {0, 1, 1, 0}, {0, 1, 1, 11}, {Integer.MIN_VALUE, 1, 1, 1}, {Integer.MAX_VALUE, 1, 1, 1}};
        for (int[] w : wrong) {
            Due.is("wrong judge", x.judge(w[0], w[1], w[2], w[3]), NONE);
        }
        Due.is("SKILLS stay", x.told(0, 0), 255);
        Due.is("LOAD stays", x.told(0, 1), 20);
        Due.is("WEIGHT stays", x.told(0, 2), 10);
        int c = Due.newCase(x, 0, 0);
        Due.is("give", x.give(0), c);
        Due.is("judge(0, 0, 0, 3)", x.judge(0, 0, 0, 3), 1);
        Due.is("GIFTS that it has stay", x.told(0, 3), 1);
        Due.is("and may be voted on", x.vote(0, c, 1), 2);
        Due.is("with the WEIGHT of then", x.judged(c, 1), 3);
        x.judge(0, 255, 5, 9);
        Due.is("a later WEIGHT changes nothing", x.judged(c, 1), 3);
    }

    private static void promise10Kin() {
        ModeratorsBench x = Due.fullBench();
        int c = Due.newCase(x, 39, 0);
        Due.is("kin(3, 39, 1)", x.kin(3, 39, 1), 0);
        Due.is("kin may not judge", x.may(3, c), 0);
        Due.is("others may", x.may(4, c), 1);
        Due.is("kin(3, 39, 1) again", x.kin(3, 39, 1), 1);
        int[][] wrong = {{-1, 0, 0}, {20, 0, 0}, {3, -1, 0}, {3, 40, 0}, {3, 39, -1}, {3, 39, 2},
            {Integer.MAX_VALUE, 0, 0}, {3, Integer.MIN_VALUE, 0}};
        for (int[] w : wrong) {
            Due.is("wrong kin", x.kin(w[0], w[1], w[2]), NONE);
        }
        Due.is("kin(3, 39, 0)", x.kin(3, 39, 0), 1);
        Due.is("it may judge once more", x.may(3, c), 1);
        Due.is("kin(3, 7, 0): 39 - 32, another writer", x.kin(3, 7, 0), 0);
        Due.is("kin(0, 0, 1)", x.kin(0, 0, 1), 0);
        Due.is("kin(0, 0, 0)", x.kin(0, 0, 0), 1);
        Due.is("give(3)", x.give(3), c);
        Due.is("kin(3, 39, 1)", x.kin(3, 39, 1), 0);
        Due.is("a GIFT stays, though the writer is KIN from now", x.told(3, 3), 1);
        Due.is("and may be voted on", x.vote(3, c, 0), 1);
    }

    private static void promise11Rest() {
        ModeratorsBench x = Due.fullBench();
        int a = Due.newCase(x, 0, 0);
        int b = Due.newCase(x, 0, 0);
        x.give(2);
        x.give(2);
        Due.is("nobody else may have them", x.next(3), NOT);
        int[][] wrong = {{-1, 1}, {20, 1}, {2, -1}, {2, 2}, {Integer.MIN_VALUE, 1}, {2, Integer.MAX_VALUE}};
        for (int[] w : wrong) {
            Due.is("wrong rest", x.rest(w[0], w[1]), NONE);
        }
        Due.is("gifts stay", x.count(3), 2);
        Due.is("rest(2, 0)", x.rest(2, 0), 0);
        Due.is("gifts stay by that", x.count(3), 2);
        Due.is("rest(2, 1)", x.rest(2, 1), 0);
        Due.is("gifts go back", x.count(3), 0);
        Due.is("of the judge", x.told(2, 3), 0);
        Due.is("of a case", x.about(b, 5), 0);
        Due.is("rest(2, 1) again", x.rest(2, 1), 1);
        Due.is("told(2, 4)", x.told(2, 4), 1);
        Due.is("next(2)", x.next(2), NOT);
        Due.is("vote(2)", x.vote(2, a, 1), NOT);
        Due.is("others may have them", x.give(3), a);
        Due.is("rest(2, 0)", x.rest(2, 0), 1);
        Due.is("next(2)", x.next(2), b);
        x.give(2);
        x.rest(3, 1);
        Due.is("only its own gifts go back", x.count(3), 1);
    }

    private static void promise12Next() {
        ModeratorsBench x = Due.fullBench();
        Due.is("no case", x.next(0), NOT);
        Due.is("next(-1)", x.next(-1), NONE);
        Due.is("next(20)", x.next(20), NONE);
        x.rule(1, 0, 10, 0);
        x.rule(2, 0, 5, 0);
        x.complain(x.post(0, 40, 0), 0);
        x.complain(x.post(0, 3, 0), 1);
        x.complain(x.post(0, 8, 0), 2);
        x.complain(x.post(0, 4, 0), 1);
        Due.is("the first of several with 40", x.next(0), 0);
        x.complain(x.post(0, 41, 0), 0);
        Due.is("the greatest", x.next(0), 4);
        x.rule(1, 0, 11, 0);
        Due.is("by the HARM of now", x.next(0), 3);
        Due.is("next gives nothing", x.count(3), 0);
        x.judge(0, 4, 20, 1);
        Due.is("of its skills alone", x.next(0), 2);
        x.judge(0, 255, 0, 1);
        Due.is("without load", x.next(0), NOT);
        Due.is("with the most that can be", x.rule(7, 0, 100, 0), 1);
        x.complain(x.post(0, 1000, 0), 7);
        Due.is("100 times 1000", x.next(1), 5);
    }

    private static void promise13Give() {
        ModeratorsBench x = Due.fullBench();
        Due.is("give(-1)", x.give(-1), NONE);
        Due.is("give(20)", x.give(20), NONE);
        Due.is("give(0) of nothing", x.give(0), NOT);
        for (int i = 0; i < 21; i++) {
            Due.newCase(x, 0, 0);
        }
        x.judge(1, 255, 2, 1);
        Due.is("give(1)", x.give(1), 0);
        Due.is("about(0, 5)", x.about(0, 5), 1);
        Due.is("give(1)", x.give(1), 1);
        Due.is("beyond its LOAD", x.give(1), NOT);
        Due.is("told(1, 3)", x.told(1, 3), 2);
        for (int i = 2; i < 21; i++) {
            Due.is("give(0)", x.give(0), i);
        }
        Due.is("no case is left", x.give(0), NOT);
        Due.is("count(3)", x.count(3), 21);
        Due.newCase(x, 0, 0);
        Due.newCase(x, 0, 0);
        Due.is("the twentieth", x.give(0), 21);
        Due.is("not a twenty-first", x.give(0), NOT);
        Due.is("check", x.check(), 0);
    }

    private static void promise14Undo() {
        ModeratorsBench x = Due.fullBench();
        Due.is("nothing to undo", x.undo(), NOT);
        for (int i = 0; i < 5; i++) {
            Due.newCase(x, 0, 0);
        }
        x.give(0);
        x.give(1);
        x.give(0);
        x.give(2);
        x.give(0);
        x.vote(0, 4, 1);
        Due.is("the one that was voted on is none any more", x.undo(), 3);
        Due.is("told(2, 3)", x.told(2, 3), 0);
        x.rest(0, 1);
        Due.is("those that went back are none any more", x.undo(), 1);
        Due.is("nothing is left", x.undo(), NOT);
        x.rest(0, 0);
        Due.is("it may be given anew", x.give(0), 0);
        Due.is("and undone anew", x.undo(), 0);
        Due.is("count(3)", x.count(3), 0);
        Due.is("check", x.check(), 0);
    }

    private static void promise15VoteRefused() {
        ModeratorsBench x = Due.fullBench();
        int c = Due.newCase(x, 0, 0);
        Due.is("vote without a gift", x.vote(0, c, 1), NOT);
        x.give(0);
        int[][] wrong = {{-1, 0, 1}, {20, 0, 1}, {0, -1, 1}, {0, 1, 1}, {0, 0, -1}, {0, 0, 2},
            {Integer.MAX_VALUE, 0, 1}, {0, Integer.MIN_VALUE, 1}, {0, 0, Integer.MAX_VALUE}};
        for (int[] w : wrong) {
            Due.is("wrong vote", x.vote(w[0], w[1], w[2]), NONE);
        }
        Due.is("another's gift", x.vote(1, c, 1), NOT);
        Due.is("another's gift, but guilty is not as said", x.vote(1, c, 2), NONE);
        Due.is("nothing changed", x.about(c, 2) + x.told(0, 5) + x.told(1, 5), 0);
        Due.is("the gift is still there", x.about(c, 5), 1);
        Due.is("vote", x.vote(0, c, 0), 1);
        Due.is("vote again", x.vote(0, c, 0), NOT);
    }

    private static void promise15VoteAgreed() {
        String[] runs = {"GGG", "GGN", "GNG", "NNG", "NNN"};
        int[] states = {2, 2, 2, 1, 1};
        for (int i = 0; i < runs.length; i++) {
            ModeratorsBench x = Due.fullBench();
            x.rule(0, 1, 1, 0);
            int c = Due.newCase(x, 0, 0);
            Due.is("two votes of " + runs[i], Due.votes(x, c, 0, runs[i].substring(0, 2)), 0);
            Due.is("three of " + runs[i], Due.votes(x, c, 2, runs[i].substring(2)), states[i]);
            Due.is("judgements", x.count(4), 1);
        }
        ModeratorsBench x = Due.fullBench();
        x.rule(0, 2, 1, 0);
        int c = Due.newCase(x, 0, 0);
        Due.is("four of five are enough", Due.votes(x, c, 0, "GGGNG"), 2);
    }

    private static void promise15VoteAsksForMore() {
        ModeratorsBench x = Due.fullBench();
        x.rule(0, 2, 1, 0);
        int c = Due.newCase(x, 0, 0);
        Due.is("3 of 5 do not agree", Due.votes(x, c, 0, "GGGNN"), 0);
        Due.is("it asks for 7", x.about(c, 4), 7);
        Due.is("4 of 7 do not agree", Due.votes(x, c, 5, "GN"), 0);
        Due.is("it asks for 9", x.about(c, 4), 9);
        Due.is("5 of 9 do not agree, but no more are asked", Due.votes(x, c, 7, "NG"), 2);
        Due.is("judged(c, 0)", x.judged(c, 0), 9);
        Due.is("judged(c, 1)", x.judged(c, 1), 5);
        Due.is("judged(c, 2)", x.judged(c, 2), 4);
        int d = Due.newCase(x, 0, 0);
        Due.votes(x, d, 0, "GGGNN");
        Due.is("5 of 7 agree", Due.votes(x, d, 5, "GG"), 2);
        Due.is("judgements", x.count(4), 2);
        Due.is("judged(d, 0)", x.judged(d, 0), 7);
    }

    private static void promise15VoteWithWeights() {
        ModeratorsBench x = Due.fullBench();
        x.rule(0, 1, 1, 0);
        x.judge(0, 255, 20, 4);
        int a = Due.newCase(x, 0, 0);
        Due.is("4 against 2: just agreed", Due.votes(x, a, 0, "GNN"), 2);
        x.judge(0, 255, 20, 3);
        int b = Due.newCase(x, 0, 0);
        Due.is("3 against 2: not agreed", Due.votes(x, b, 0, "GNN"), 0);
        Due.is("more are asked", x.about(b, 4), 5);
        Due.is("3 against 4: not agreed", Due.votes(x, b, 3, "NN"), 0);
        x.judge(5, 255, 20, 2);
        Due.is("asked twice", x.about(b, 4), 7);
        Due.is("5 against 5 is not more: cleared", Due.votes(x, b, 5, "GN"), 1);
        Due.is("g", x.judged(b, 1), 5);
        Due.is("n", x.judged(b, 2), 5);
        x.judge(0, 255, 20, 10);
        x.judge(1, 255, 20, 10);
        x.judge(2, 255, 20, 10);
        int d = Due.newCase(x, 0, 0);
        Due.is("the most that can be", Due.votes(x, d, 0, "NNN"), 1);
        Due.is("n", x.judged(d, 2), 30);
    }

    private static void promise15VoteBehindAppeal() {
        ModeratorsBench x = Due.fullBench();
        int c = Due.judgedCase(x, 0, 0, 1);
        x.appeal(c);
        Due.is("3 are asked", x.about(c, 4), 3);
        x.judge(3, 255, 20, 2);
        Due.is("2 against 2", Due.votes(x, c, 1, "NNG"), 3);
        Due.is("5 are asked", x.about(c, 4), 5);
        Due.is("3 against 3", Due.votes(x, c, 4, "GN"), 3);
        Due.is("7 are asked", x.about(c, 4), 7);
        Due.is("4 against 4: cleared for good", Due.votes(x, c, 6, "GN"), 4);
        int d = Due.judgedCase(x, 0, 0, 1);
        x.appeal(d);
        Due.is("guilty for good", Due.votes(x, d, 1, "GGG"), 5);
    }

    private static void promise15VoteLooksAtAllJudges() {
        ModeratorsBench x = Due.fullBench();
        x.limit(99);
        x.rule(1, 1, 1, 0);
        for (int i = 0; i < 5; i++) {
            int c = Due.newCase(x, 0, 1);
            Due.giveAndVote(x, 5, c, 0);
            Due.giveAndVote(x, 6, c, 1);
            Due.is("not looked at ahead of the judgement", x.told(5, 4), 0);
            if (i == 4) {
                Due.newCase(x, 0, 0);
                Due.is("a gift to go back", x.give(5), 5);
            }
            Due.giveAndVote(x, 7, c, 1);
            Due.is("rests behind the fifth", x.told(5, 4), i == 4 ? 1 : 0);
        }
        Due.is("its gifts went back", x.told(5, 3), 0);
        Due.is("and are there for others", x.next(8), 5);
        Due.is("the others do not rest", x.told(6, 4) + x.told(7, 4), 0);
    }

    private static void promise16May() {
        ModeratorsBench x = Due.fullBench();
        x.rule(0, 1, 1, 0);
        int c = Due.newCase(x, 5, 0);
        Due.is("may(-1, 0)", x.may(-1, c), NONE);
        Due.is("may(20, 0)", x.may(20, c), NONE);
        Due.is("may(0, -1)", x.may(0, -1), NONE);
        Due.is("may(0, 1)", x.may(0, 1), NONE);
        Due.is("may(MAX, MAX)", x.may(Integer.MAX_VALUE, Integer.MAX_VALUE), NONE);
        Due.is("may", x.may(0, c), 1);
        x.judge(0, 254, 20, 1);
        Due.is("not without the skill", x.may(0, c), 0);
        x.judge(0, 1, 20, 1);
        Due.is("with it", x.may(0, c), 1);
        x.kin(0, 5, 1);
        Due.is("not kin", x.may(0, c), 0);
        x.kin(0, 5, 0);
        x.rest(0, 1);
        Due.is("not while it rests", x.may(0, c), 0);
        x.rest(0, 0);
        x.judge(0, 1, 0, 1);
        Due.is("not without load", x.may(0, c), 0);
        x.judge(0, 1, 2, 1);
        x.give(0);
        Due.is("not what it has", x.may(0, c), 0);
        x.vote(0, c, 1);
        Due.is("not what it voted on", x.may(0, c), 0);
        x.give(1);
        x.vote(1, c, 1);
        Due.is("a third may", x.may(2, c), 1);
        x.give(2);
        Due.is("votes and gifts are as many as asked for", x.may(3, c), 0);
        x.undo();
        Due.is("a gift went back", x.may(3, c), 1);
        x.give(2);
        x.vote(2, c, 1);
        Due.is("it is judged", x.may(3, c), 0);
        x.appeal(c);
        Due.is("it is appealed", x.may(3, c), 1);
        Due.is("but not for who voted the first time", x.may(0, c) + x.may(1, c) + x.may(2, c), 0);
    }

    private static void promise17Told() {
        ModeratorsBench x = new ModeratorsBench();
        x.judge(4, 129, 3, 7);
        Due.newCase(x, 0, 0);
        Due.newCase(x, 0, 7);
        x.give(4);
        x.give(4);
        x.vote(4, 1, 1);
        int[] due = {129, 3, 7, 1, 0, 1, 1, 0};
        for (int what = 0; what < 8; what++) {
            Due.is("told(4, " + what + ")", x.told(4, what), due[what]);
        }
        int[][] wrong = {{-1, 0}, {20, 0}, {4, -1}, {4, 8}, {Integer.MIN_VALUE, 0}, {4, Integer.MAX_VALUE}};
        for (int[] w : wrong) {
            Due.is("wrong told", x.told(w[0], w[1]), NONE);
        }
    }

    private static void promise17Doubt() {
        ModeratorsBench x = Due.fullBench();
        x.rule(0, 1, 1, 0);
        int c = Due.newCase(x, 0, 0);
        Due.votes(x, c, 0, "GN");
        Due.is("not asked of ahead of the judgement", x.told(0, 6), 0);
        Due.is("but it is a vote", x.told(0, 5), 1);
        x.known(c, 0);
        Due.is("asked of, as the case is known", x.told(0, 6), 1);
        Due.is("held against what is known", x.told(0, 7), 1);
        Due.is("the other stood with it", x.told(1, 7), 0);
        x.known(c, -1);
        Due.is("not known any more", x.told(0, 6) + x.told(0, 7), 0);
        Due.votes(x, c, 2, "G");
        Due.is("held against the judgement", x.told(0, 7) * 10 + x.told(1, 7), 1);
        x.appeal(c);
        Due.votes(x, c, 3, "NNNN");
        Due.is("the second time is not judged yet", x.told(3, 6), 0);
        Due.is("the first one stands", x.told(1, 6) * 10 + x.told(1, 7), 11);
        Due.is("cleared for good", Due.votes(x, c, 7, "G"), 4);
        Due.is("each time apart: the first", x.told(0, 7) * 10 + x.told(1, 7), 1);
        Due.is("each time apart: the second", x.told(3, 7) * 10 + x.told(7, 7), 1);
        Due.is("asked of in the second", x.told(3, 6), 1);
        int alone = Due.judgedCase(x, 0, 1, 0);
        Due.is("judge 0 alone cleared it: it stood with itself", x.told(0, 6) * 10 + x.told(0, 7), 20);
        x.known(alone, 0);
        Due.is("and with what is known", x.told(0, 7), 0);
        x.known(c, 1);
        Due.is("what is known goes ahead", x.told(3, 7) * 10 + x.told(7, 7), 10);
    }
}
