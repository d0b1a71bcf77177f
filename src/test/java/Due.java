/** Counts and prints the answers that are not the ones that are due; also the moves that many tests share. */
final class Due {
    private static int wrong = 0;
    private static int asked = 0;

    private Due() {
    }

    static void is(String call, int got, int want) {
        asked++;
        if (got != want) {
            wrong++;
            System.out.println(call + " answered " + got + ", due is " + want);
        }
    }

    static void holds(String claim, boolean held) {
        is(claim, held ? 1 : 0, 1);
    }

    /** Ends the program: with exit code 1 if an answer was wrong. */
    static void end() {
        System.out.println(asked + " answers, " + wrong + " of them wrong");
        System.exit(wrong == 0 && asked > 0 ? 0 : 1);
    }

    /** A bench on which all twenty judges may judge of every rule, with load 20 and weight 1. */
    static ModeratorsBench fullBench() {
        ModeratorsBench x = new ModeratorsBench();
        for (int j = 0; j < 20; j++) {
            is("judge " + j, x.judge(j, 255, 20, 1), 1);
        }
        return x;
    }

    /** A new post of this writer and a case of it under this rule: the case. */
    static int newCase(ModeratorsBench x, int writer, int rule) {
        return x.complain(x.post(writer, 1, 0), rule);
    }

    /** Gives this case, which must be the judge's next one, and votes on it: the state then. */
    static int giveAndVote(ModeratorsBench x, int judge, int c, int guilty) {
        is("give(" + judge + ") of case " + c, x.give(judge), c);
        return x.vote(judge, c, guilty);
    }

    /** A post of this writer that judge 0 alone finds guilty (1) or not (0) by this rule of grade 0: the case. */
    static int judgedCase(ModeratorsBench x, int writer, int rule, int guilty) {
        int c = newCase(x, writer, rule);
        is("state of case " + c, giveAndVote(x, 0, c, guilty), guilty == 1 ? 2 : 1);
        return c;
    }

    /** Lets the judges from 'from' on vote on the case, one by one, by the signs of the text (G or N): the last state. */
    static int votes(ModeratorsBench x, int c, int from, String signs) {
        int state = -9;
        for (int i = 0; i < signs.length(); i++) {
            state = giveAndVote(x, from + i, c, signs.charAt(i) == 'G' ? 1 : 0);
        }
        return state;
    }
}
