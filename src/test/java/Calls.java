/** Every call of the face by its number, so that a random run or a written one can choose among them. */
final class Calls {
    static final int KINDS = 28;
    static final int WRITER = 23;
    static final int KNOWN = 19;
    static final String[] NAMES = {"tick", "rule", "ladder", "due", "limit", "post", "complain", "judge", "kin", "rest",
        "next", "give", "undo", "vote", "may", "told", "about", "judged", "appeal", "known", "late", "like", "unlike",
        "writer", "level", "hidden", "count", "check"};
    /** How many arguments each of them takes. */
    static final int[] ARGUMENTS = {1, 4, 2, 2, 1, 3, 2, 4, 3, 2, 1, 1, 0, 3, 2, 2, 2, 2, 1, 2, 0, 2, 2, 2, 1, 1, 1, 0};

    private Calls() {
    }

    /** The number of the promise that tells of this kind: they stand in the order of the face, behind the first. */
    static int promiseOf(int kind) {
        return kind + 2;
    }

    static int kindOf(String name) {
        for (int kind = 0; kind < KINDS; kind++) {
            if (NAMES[kind].equals(name)) {
                return kind;
            }
        }
        throw new IllegalArgumentException("no call " + name);
    }

    static int call(ModeratorsBench x, int kind, int a, int b, int c, int d) {
        switch (kind) {
            case 0: return x.tick(a);
            case 1: return x.rule(a, b, c, d);
            case 2: return x.ladder(a, b);
            case 3: return x.due(a, b);
            case 4: return x.limit(a);
            case 5: return x.post(a, b, c);
            case 6: return x.complain(a, b);
            case 7: return x.judge(a, b, c, d);
            case 8: return x.kin(a, b, c);
            case 9: return x.rest(a, b);
            case 10: return x.next(a);
            case 11: return x.give(a);
            case 12: return x.undo();
            case 13: return x.vote(a, b, c);
            case 14: return x.may(a, b);
            case 15: return x.told(a, b);
            case 16: return x.about(a, b);
            case 17: return x.judged(a, b);
            case 18: return x.appeal(a);
            case 19: return x.known(a, b);
            case 20: return x.late();
            case 21: return x.like(a, b);
            case 22: return x.unlike(a, b);
            case 23: return x.writer(a, b);
            case 24: return x.level(a);
            case 25: return x.hidden(a);
            case 26: return x.count(a);
            default: return x.check();
        }
    }
}
