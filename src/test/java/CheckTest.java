import java.lang.reflect.Field;
import java.util.List;

/** Promise 29: no call can make check() count anything, so its state is broken here from behind. */
public final class CheckTest {
    public static void main(String[] args) throws ReflectiveOperationException {
        ModeratorsBench x = Due.fullBench();
        x.rule(0, 1, 1, 0);
        Due.newCase(x, 0, 0);
        Due.newCase(x, 0, 0);
        Due.votes(x, 0, 0, "GGG");
        x.appeal(0);
        Due.votes(x, 0, 3, "GG");
        Due.is("check of a right bench", x.check(), 0);

        Object first = ((List<?>) get(x, "cases")).get(0);
        Object second = get(first, "second");
        Object judge = ((Object[]) get(x, "judges"))[19];

        set(first, "holders", 0b1110_0000);
        Due.is("two votes and three gifts of five", x.check(), 0);
        set(first, "holders", 0b1_1110_0000);
        Due.is("one gift too many", x.check(), 1);
        set(judge, "gifts", 20);
        Due.is("a judge with twenty gifts", x.check(), 1);
        set(judge, "gifts", 21);
        Due.is("a judge with more than twenty gifts, too", x.check(), 2);
        set(first, "holders", 0b1000);
        Due.is("a gift that was voted on in this time", x.check(), 2);
        set(judge, "gifts", 0);
        set(first, "holders", 0b0001);
        Due.is("a gift that was voted on the first time", x.check(), 1);
        set(first, "holders", 0);
        Due.is("right once more", x.check(), 0);
        set(second, "voters", 0b1_0001);
        Due.is("a judge who voted twice", x.check(), 1);
        Due.end();
    }

    private static Object get(Object of, String name) throws ReflectiveOperationException {
        return field(of, name).get(of);
    }

    private static void set(Object of, String name, int value) throws ReflectiveOperationException {
        field(of, name).setInt(of, value);
    }

    private static Field field(Object of, String name) throws ReflectiveOperationException {
        Field found = of.getClass().getDeclaredField(name);
        found.setAccessible(true);
        return found;
    }
}
