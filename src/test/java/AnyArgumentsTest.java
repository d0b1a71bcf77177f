import java.util.Random;

/** No call throws, whatever its arguments, and the class stays right, far beyond the 512 calls of the document. */
public final class AnyArgumentsTest {
    private static final int[] ODD = {Integer.MIN_VALUE, Integer.MIN_VALUE + 1, -1000, -6, -5, -4, -3, -2, -1, 31, 32,
        63, 64, 255, 256, 299, 300, 399, 400, 401, 1000, 1001, 10000, 10001, 1000000, Integer.MAX_VALUE};

    public static void main(String[] args) {
        for (int seed = 0; seed < 40; seed++) {
            Random random = new Random(seed);
            ModeratorsBench x = Due.fullBench();
            for (int i = 0; i < 6000; i++) {
                Calls.call(x, random.nextInt(Calls.KINDS), any(random), any(random), any(random), any(random));
            }
            Due.is("check", x.check(), 0);
        }
        aLongLife();
        Due.end();
    }

    private static int any(Random random) {
        int sort = random.nextInt(10);
        return sort == 0 ? ODD[random.nextInt(ODD.length)] : sort < 7 ? random.nextInt(9) : random.nextInt(401);
    }

    /** Every judge votes on every case of a full bench, which is more than 512 calls allow. */
    private static void aLongLife() {
        ModeratorsBench x = Due.fullBench();
        x.rule(0, 2, 1, 2);
        for (int p = 0; p < 300; p++) {
            x.post(0, 1 + p % 3, 0);
            x.complain(p, 0);
        }
        for (int round = 0; round < 60; round++) {
            for (int j = 0; j < 20; j++) {
                for (int i = 0; i < 21; i++) {
                    int c = x.give(j);
                    x.vote(j, c, (j + c) % 2);
                    x.appeal(c);
                }
            }
        }
        Due.is("all are judged", x.count(2), 0);
        Due.is("check", x.check(), 0);
        for (int t = 0; t < 1000; t++) {
            Due.is("tick " + t, x.tick(1000), 1000 * (t + 1));
        }
        Due.is("TICK is at most 1000000", x.tick(1), ModeratorsBench.NONE);
    }
}
