import java.util.ArrayList;
import java.util.List;
import java.util.Random;

/** Random runs of 512 calls with fixed seeds: the class and the plain bench must answer alike. */
public final class PlainBenchTest {
    private static final int RUNS = 400;
    private static final int CALLS = 512;
    /** How often each call of Calls.NAMES is chosen: much that moves things, some of everything. */
    private static final int[] SHARES = {5, 2, 1, 1, 1, 9, 10, 2, 1, 1, 1, 26, 1, 34, 1, 3, 3, 2, 5, 4, 1, 1, 2, 6, 3, 1,
        1, 1};

    private final Random random;
    private final ModeratorsBench x = new ModeratorsBench();
    private final PlainBench plain = new PlainBench();
    private final List<int[]> given = new ArrayList<>();
    /** How many judges, rules and writers take part: few of them meet often. */
    private final int judges, rules, writers;
    private final int leaning;
    private int posts = 0, cases = 0;

    private PlainBenchTest(int seed) {
        random = new Random(seed);
        judges = 4 + random.nextInt(17);
        rules = 1 + random.nextInt(8);
        writers = 1 + random.nextInt(4);
        leaning = 20 + random.nextInt(70);
    }

    public static void main(String[] args) {
        int[] states = new int[6];
        for (int seed = 0; seed < RUNS; seed++) {
            new PlainBenchTest(seed).run(seed, states);
        }
        for (int state = 0; state < states.length; state++) {
            Due.holds("the runs reach state " + state + " often (" + states[state] + ")", states[state] > 100);
        }
        Due.end();
    }

    private void run(int seed, int[] states) {
        int i = 0;
        for (int j = 0; j < judges && i < CALLS; j++, i++) {
            both(seed, 7, j, random.nextInt(4) == 0 ? random.nextInt(256) : 255, 1 + random.nextInt(6),
                random.nextInt(3) == 0 ? 1 + random.nextInt(10) : 1);
        }
        for (int r = 0; r < rules && i < CALLS; r++, i++) {
            both(seed, 1, r, random.nextInt(3), 1 + random.nextInt(20), random.nextInt(4) == 0 ? random.nextInt(3) : 2);
        }
        both(seed, 4, 20 + random.nextInt(60), 0, 0, 0);
        both(seed, 2, 1 + random.nextInt(40), 1 + random.nextInt(20), 0, 0);
        for (i += 2; i < CALLS; i++) {
            step(seed);
        }
        for (int c = 0; c < cases; c++) {
            states[x.about(c, 2)]++;
        }
        compareAll(seed);
    }

    private void step(int seed) {
        int kind = kind();
        if (kind == 13 && !given.isEmpty() && random.nextInt(20) > 0) {
            int[] gift = given.remove(random.nextInt(given.size()));
            // Judges mostly see what there is to see, so that some cases agree and some do not.
            both(seed, 13, gift[0], gift[1], random.nextInt(100) < leaning ? 1 : 0, 0);
            return;
        }
        int[] a = arguments(kind);
        int answer = both(seed, kind, a[0], a[1], a[2], a[3]);
        if (kind == 11 && answer >= 0) {
            given.add(new int[] {a[0], answer});
        } else if (kind == 5 && answer >= 0) {
            posts = answer + 1;
        } else if (kind == 6 && answer >= cases) {
            cases = answer + 1;
        }
    }

    private int kind() {
        int all = 0;
        for (int share : SHARES) {
            all += share;
        }
        int drawn = random.nextInt(all);
        for (int kind = 0; kind < SHARES.length; kind++) {
            drawn -= SHARES[kind];
            if (drawn < 0) {
                return kind;
            }
        }
        return 0;
    }

    /** Mostly what the call can use; now and then one beyond its bounds. */
    private int[] arguments(int kind) {
        int judge = upTo(judges), rule = upTo(rules), writer = upTo(writers);
        int post = posts > 6 && random.nextInt(3) > 0 ? posts - 1 - random.nextInt(6) : upTo(posts);
        int c = upTo(cases);
        switch (kind) {
            case 0: return row(odd(1 + random.nextInt(6), 0), 0, 0, 0);
            case 1: return row(rule, upTo(3), odd(1 + random.nextInt(100), 0), random.nextInt(4) == 0 ? upTo(3) : 2);
            case 2: return row(odd(1 + random.nextInt(60), 0), odd(1 + random.nextInt(30), 10001), 0, 0);
            case 3: return row(upTo(3), odd(1 + random.nextInt(20), 1001), 0, 0);
            case 4: return row(odd(random.nextInt(101), 101), 0, 0, 0);
            case 5: return row(writer, odd(1 + random.nextInt(50), 1001), upTo(16), 0);
            case 6: return row(post, rule, 0, 0);
            case 7: return row(judge, odd(random.nextInt(256) | 1, 256), upTo(21), odd(1 + random.nextInt(10), 11));
            case 8: return row(judge, writer, upTo(2), 0);
            case 9: return row(judge, random.nextInt(3) == 0 ? 1 : upTo(1), 0, 0);
            case 13: return row(judge, c, upTo(2), 0);
            case 14: return row(judge, c, 0, 0);
            case 15: return row(judge, upTo(8), 0, 0);
            case 16: return row(c, upTo(8), 0, 0);
            case 17: return row(c, upTo(3), 0, 0);
            case 18: return row(c, 0, 0, 0);
            case 19: return row(c, odd(random.nextInt(3) - 1, 2), 0, 0);
            case 21:
            case 22: return row(c, upTo(9), 0, 0);
            case 23: return row(writer, upTo(7), 0, 0);
            case 24: return row(c, 0, 0, 0);
            case 25: return row(post, 0, 0, 0);
            case 26: return row(upTo(6), 0, 0, 0);
            default: return row(judge, 0, 0, 0);
        }
    }

    private static int[] row(int a, int b, int c, int d) {
        return new int[] {a, b, c, d};
    }

    private int upTo(int end) {
        return odd(end > 0 ? random.nextInt(end) : 0, random.nextBoolean() ? -1 : end);
    }

    private int odd(int fit, int unfit) {
        return random.nextInt(60) == 0 ? unfit : fit;
    }

    private int both(int seed, int kind, int a, int b, int c, int d) {
        int answer = Calls.call(x, kind, a, b, c, d);
        int want = plain.call(kind, a, b, c, d);
        if (answer != want) {
            Due.is("seed " + seed + ": " + Calls.NAMES[kind] + "(" + a + ", " + b + ", " + c + ", " + d + ")",
                answer, want);
        }
        return answer;
    }

    /** Everything that can be asked without changing anything. */
    private void compareAll(int seed) {
        for (int c = -1; c <= cases; c++) {
            for (int what = 0; what < 9; what++) {
                both(seed, 16, c, what, 0, 0);
                both(seed, 17, c, what, 0, 0);
                both(seed, 21, c, what, 0, 0);
                both(seed, 22, c, what, 0, 0);
            }
            both(seed, 24, c, 0, 0, 0);
            for (int j = 0; j < 20; j++) {
                both(seed, 14, j, c, 0, 0);
            }
        }
        for (int j = -1; j <= 20; j++) {
            both(seed, 10, j, 0, 0, 0);
            for (int what = 0; what < 9; what++) {
                both(seed, 15, j, what, 0, 0);
            }
        }
        for (int w = -1; w <= 40; w++) {
            for (int what = 0; what < 8; what++) {
                both(seed, 23, w, what, 0, 0);
            }
        }
        for (int p = -1; p <= posts; p++) {
            both(seed, 25, p, 0, 0, 0);
        }
        for (int what = -1; what < 7; what++) {
            both(seed, 26, what, 0, 0, 0);
        }
        both(seed, 20, 0, 0, 0, 0);
        both(seed, 27, 0, 0, 0, 0);
        for (int i = 0; i < 100; i++) {
            both(seed, 12, 0, 0, 0, 0);
        }
    }
}
