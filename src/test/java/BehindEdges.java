import java.lang.reflect.Field;
import java.util.List;

/** Edges that no run of 512 calls shows (promises 2 and 29, the constants): looked at, set or broken from behind. */
final class BehindEdges extends Edges {
    private BehindEdges() {
    }

    static void all() throws ReflectiveOperationException {
        constants();
        lastTick();
        tooManyVotesAndGifts();
        tooManyGifts();
        votedTwice();
        severalAtOnce();
    }

    /** By reflection, as the compiler would copy the numbers into this class. */
    private static void constants() throws ReflectiveOperationException {
        claim(7, FIRST_NAMED);
        String[] names = {"NONE", "FULL", "THERE", "NOT"};
        for (int i = 0; i < names.length; i++) {
            Due.is("constant " + names[i], ModeratorsBench.class.getField(names[i]).getInt(null), -1 - i);
        }
    }

    private static void lastTick() throws ReflectiveOperationException {
        claim(2, "n (1 .. 1000) ticks go by: TICK then (at most 1000000). NONE.");
        ModeratorsBench x = new ModeratorsBench();
        set(x, "now", 999000);
        Due.is("promise 2: tick(1000) at 999000", x.tick(1000), 1000000);
        Due.is("promise 2: tick(1) at 1000000", x.tick(1), -1);
        Due.is("promise 2: tick(1000) at 1000000", x.tick(1000), -1);
        Due.is("promise 2: TICK behind the refused ones", x.count(5), 1000000);
        set(x, "now", 999001);
        Due.is("promise 2: tick(1000) at 999001", x.tick(1000), -1);
        Due.is("promise 2: tick(999) at 999001", x.tick(999), 1000000);
    }

    /** Case 0 was judged by judges 0, 1, 2, is appealed, and asks for five, of which judges 3 and 4 voted. */
    private static ModeratorsBench appealedCase() {
        ModeratorsBench x = Due.fullBench();
        x.rule(0, 1, 1, 0);
        Due.newCase(x, 0, 0);
        Due.votes(x, 0, 0, "GGG");
        x.appeal(0);
        Due.votes(x, 0, 3, "GG");
        Due.is("promise 29: check of a right bench", x.check(), 0);
        return x;
    }

    private static Object caseOf(ModeratorsBench x) throws ReflectiveOperationException {
        return ((List<?>) get(x, "cases")).get(0);
    }

    private static Object judgeOf(ModeratorsBench x, int j) throws ReflectiveOperationException {
        return ((Object[]) get(x, "judges"))[j];
    }

    private static void tooManyVotesAndGifts() throws ReflectiveOperationException {
        claim(29, "no CASE has more VOTES (of this time) and GIFTS than it ASKS for");
        ModeratorsBench x = appealedCase();
        set(caseOf(x), "holders", 0b1110_0000);
        Due.is("promise 29: two votes and three gifts of five", x.check(), 0);
        set(caseOf(x), "holders", 0b1_1110_0000);
        Due.is("promise 29: two votes and four gifts of five", x.check(), 1);
    }

    private static void tooManyGifts() throws ReflectiveOperationException {
        claim(29, "no JUDGE has more than 20 GIFTS");
        for (int j : new int[] {0, 19}) {
            ModeratorsBench x = appealedCase();
            set(judgeOf(x, j), "gifts", 20);
            Due.is("promise 29: judge " + j + " with 20 gifts", x.check(), 0);
            set(judgeOf(x, j), "gifts", 21);
            Due.is("promise 29: judge " + j + " with 21 gifts", x.check(), 1);
        }
    }

    private static void votedTwice() throws ReflectiveOperationException {
        claim(29, "none voted twice on a CASE, or has as a GIFT what it voted on.");
        ModeratorsBench x = appealedCase();
        Object second = get(caseOf(x), "second");
        set(caseOf(x), "holders", 0b1000);
        Due.is("promise 29: a gift that was voted on in this time", x.check(), 1);
        set(caseOf(x), "holders", 0b0001);
        Due.is("promise 29: a gift that was voted on the first time", x.check(), 1);
        set(caseOf(x), "holders", 0);
        Due.is("promise 29: right once more", x.check(), 0);
        set(second, "voters", 0b1_0001);
        Due.is("promise 29: a judge who voted both times", x.check(), 1);
    }

    private static void severalAtOnce() throws ReflectiveOperationException {
        claim(29, "How many of these do not hold");
        ModeratorsBench x = appealedCase();
        set(judgeOf(x, 7), "gifts", 21);
        set(judgeOf(x, 8), "gifts", 21);
        Due.is("promise 29: one of the three does not hold, for two judges", x.check(), 1);
        set(caseOf(x), "holders", 0b1_1110_0000);
        Due.is("promise 29: two of the three do not hold", x.check(), 2);
        set(caseOf(x), "holders", 0b1_1110_1000);
        Due.is("promise 29: none of the three holds", x.check(), 3);
    }

    private static Object get(Object of, String name) throws ReflectiveOperationException {
        return field(of, name).get(of);
    }

    private static void set(Object of, String name, int value) throws ReflectiveOperationException {
        field(of, name).setInt(of, value);
    }

    private static Field field(Object of, String name) throws ReflectiveOperationException {
        Field found = of.getClass().getDeclaredField(name);
        found.setAccessible(true);
        return found;
    }
}
