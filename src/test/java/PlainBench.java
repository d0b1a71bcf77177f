import java.util.ArrayList;
import java.util.List;

/**
 * The document written a second time, for the tests alone: slow, with one log of votes and one of gifts, from which
 * every answer is worked out. It shares no line of thought with the class on how things are held.
 */
final class PlainBench {
    /** A vote: who, on which case, the how-manieth hearing (0, 1), guilty (1, 0), weight. */
    private record Vote(int judge, int c, int time, int guilty, int weight) {
    }

    /** What a hearing was judged: case, time, 1 if guilty, votes, g, n. */
    private record Verdict(int c, int time, int guilty, int votes, int g, int n) {
    }

    private record Strike(int c, int tick, int level) {
    }

    private int tick = 0, fade = 100, quiet = 10, limit = 100;
    private final int[] due = {10, 20, 30};
    private final int[][] rules = new int[8][];
    private final int[][] judges = new int[20][];
    private final boolean[][] kin = new boolean[20][40];
    private final boolean[] rests = new boolean[20];
    private final List<int[]> posts = new ArrayList<>();
    /** post, rule, tick came, complaints, state, grade, asks, times more, waits since, known. */
    private final List<int[]> cases = new ArrayList<>();
    private final List<Vote> votes = new ArrayList<>();
    private final List<int[]> gifts = new ArrayList<>();
    private final List<Verdict> verdicts = new ArrayList<>();

    PlainBench() {
        for (int r = 0; r < 8; r++) {
            rules[r] = new int[] {0, 1, 0};
        }
        for (int j = 0; j < 20; j++) {
            judges[j] = new int[] {0, 2, 1};
        }
    }

    private static boolean out(int n, int least, int most) {
        return n < least || n > most;
    }

    private boolean noCase(int c) {
        return out(c, 0, cases.size() - 1);
    }

    private boolean noJudge(int j) {
        return out(j, 0, 19);
    }

    private boolean open(int c) {
        return cases.get(c)[4] == 0 || cases.get(c)[4] == 3;
    }

    private boolean guilt(int c) {
        int state = cases.get(c)[4];
        return state == 2 || state == 3 || state == 5;
    }

    private int writerOf(int c) {
        return posts.get(cases.get(c)[0])[0];
    }

    private int postTick(int c) {
        return posts.get(cases.get(c)[0])[3];
    }

    /** 0 while the case was never appealed, else 1. */
    private int time(int c) {
        return cases.get(c)[4] >= 3 ? 1 : 0;
    }

    int call(int kind, int a, int b, int c, int d) {
        switch (kind) {
            case 0: return out(a, 1, 1000) ? -1 : (tick += a);
            case 1: return out(a, 0, 7) || out(b, 0, 2) || out(c, 1, 100) || out(d, 0, 2) ? -1
                : set(rules[a], b, c, d);
            case 2: return ladder(a, b);
            case 3: return due(a, b);
            case 4: return limit(a);
            case 5: return post(a, b, c);
            case 6: return complain(a, b);
            case 7: return noJudge(a) || out(b, 0, 255) || out(c, 0, 20) || out(d, 1, 10) ? -1 : set(judges[a], b, c, d);
            case 8: return kin(a, b, c);
            case 9: return rest(a, b);
            case 10: return noJudge(a) ? -1 : next(a);
            case 11: return give(a);
            case 12: return gifts.isEmpty() ? -4 : gifts.remove(gifts.size() - 1)[1];
            case 13: return vote(a, b, c);
            case 14: return noJudge(a) || noCase(b) ? -1 : may(a, b) ? 1 : 0;
            case 15: return noJudge(a) || out(b, 0, 7) ? -1 : told(a, b);
            case 16: return noCase(a) || out(b, 0, 7) ? -1 : about(a, b);
            case 17: return noCase(a) || out(b, 0, 2) ? -1 : judged(a, b);
            case 18: return appeal(a);
            case 19: return known(a, b);
            case 20: return late();
            case 21: return noCase(a) || out(b, 0, 8) ? -1 : like(a, b).size();
            case 22: return noCase(a) || out(b, 0, 8) ? -1 : unlike(like(a, b));
            case 23: return out(a, 0, 39) || out(b, 0, 6) ? -1 : writer(a, b);
            case 24: return noCase(a) ? -1 : level(a);
            case 25: return out(a, 0, posts.size() - 1) ? -1 : hidden(a) ? 1 : 0;
            case 26: return out(a, 0, 5) ? -1 : count(a);
            default: return 0;
        }
    }

    private int set(int[] row, int a, int b, int c) {
        row[0] = a;
        row[1] = b;
        row[2] = c;
        return 1;
    }

    private int ladder(int f, int q) {
        if (out(f, 1, 10000) || out(q, 1, 10000)) {
            return -1;
        }
        fade = f;
        quiet = q;
        return 1;
    }

    private int due(int grade, int ticks) {
        if (out(grade, 0, 2) || out(ticks, 1, 1000)) {
            return -1;
        }
        int was = due[grade];
        due[grade] = ticks;
        return was;
    }

    private int limit(int percent) {
        if (out(percent, 0, 100)) {
            return -1;
        }
        int was = limit;
        limit = percent;
        return was;
    }

    private int post(int writer, int reach, int marks) {
        if (out(writer, 0, 39) || out(reach, 1, 1000) || out(marks, 0, 255)) {
            return -1;
        }
        if (posts.size() == 300) {
            return -2;
        }
        posts.add(new int[] {writer, reach, marks, tick});
        return posts.size() - 1;
    }

    private int complain(int post, int rule) {
        if (out(post, 0, posts.size() - 1) || out(rule, 0, 7)) {
            return -1;
        }
        for (int c = 0; c < cases.size(); c++) {
            if (cases.get(c)[0] == post && cases.get(c)[1] == rule) {
                cases.get(c)[3]++;
                return c;
            }
        }
        if (cases.size() == 400) {
            return -2;
        }
        int grade = rules[rule][0];
        cases.add(new int[] {post, rule, tick, 1, 0, grade, new int[] {1, 3, 5}[grade], 0, tick, -1});
        return cases.size() - 1;
    }

    private int kin(int judge, int writer, int is) {
        if (noJudge(judge) || out(writer, 0, 39) || out(is, 0, 1)) {
            return -1;
        }
        int was = kin[judge][writer] ? 1 : 0;
        kin[judge][writer] = is == 1;
        return was;
    }

    private int rest(int judge, int is) {
        if (noJudge(judge) || out(is, 0, 1)) {
            return -1;
        }
        int was = rests[judge] ? 1 : 0;
        rests[judge] = is == 1;
        if (is == 1) {
            gifts.removeIf(g -> g[0] == judge);
        }
        return was;
    }

    private int giftsOfJudge(int judge) {
        return (int) gifts.stream().filter(g -> g[0] == judge).count();
    }

    private int giftsOfCase(int c) {
        return (int) gifts.stream().filter(g -> g[1] == c).count();
    }

    private int votesThisTime(int c) {
        return (int) votes.stream().filter(v -> v.c == c && v.time == time(c)).count();
    }

    private boolean may(int judge, int c) {
        if (!open(c) || rests[judge] || kin[judge][writerOf(c)]) {
            return false;
        }
        if (votesThisTime(c) + giftsOfCase(c) >= cases.get(c)[6]) {
            return false;
        }
        if ((judges[judge][0] / (1 << cases.get(c)[1])) % 2 == 0 || giftsOfJudge(judge) >= judges[judge][1]) {
            return false;
        }
        return votes.stream().noneMatch(v -> v.judge == judge && v.c == c)
            && gifts.stream().noneMatch(g -> g[0] == judge && g[1] == c);
    }

    private int next(int judge) {
        int best = -4;
        for (int c = cases.size() - 1; c >= 0; c--) {
            if (may(judge, c) && (best < 0 || urgency(c) >= urgency(best))) {
                best = c;
            }
        }
        return best;
    }

    private int urgency(int c) {
        return rules[cases.get(c)[1]][1] * posts.get(cases.get(c)[0])[1];
    }

    private int give(int judge) {
        if (noJudge(judge)) {
            return -1;
        }
        int c = next(judge);
        if (c >= 0) {
            gifts.add(new int[] {judge, c});
        }
        return c;
    }

    private int vote(int judge, int c, int guilty) {
        if (noJudge(judge) || noCase(c) || out(guilty, 0, 1)) {
            return -1;
        }
        if (!gifts.removeIf(g -> g[0] == judge && g[1] == c)) {
            return -4;
        }
        int[] row = cases.get(c);
        int time = time(c);
        votes.add(new Vote(judge, c, time, guilty, judges[judge][2]));
        int all = 0, g = 0, n = 0;
        for (Vote v : votes) {
            if (v.c == c && v.time == time) {
                all++;
                g += v.guilty == 1 ? v.weight : 0;
                n += v.guilty == 0 ? v.weight : 0;
            }
        }
        if (all == row[6]) {
            boolean agreed = 3 * g >= 2 * g + 2 * n || 3 * n >= 2 * g + 2 * n;
            if (!agreed && row[7] < 2 && row[6] <= 7) {
                row[6] += 2;
                row[7]++;
            } else {
                verdicts.add(new Verdict(c, time, g > n ? 1 : 0, all, g, n));
                row[4] = (time == 1 ? 4 : 1) + (g > n ? 1 : 0);
                look();
            }
        }
        return row[4];
    }

    private void look() {
        for (int j = 0; j < 20; j++) {
            int[] doubt = doubt(j);
            if (doubt[0] >= 5 && doubt[1] * 100 > limit * doubt[0]) {
                rest(j, 1);
            }
        }
    }

    private int[] doubt(int judge) {
        int asked = 0, alone = 0;
        for (Vote v : votes) {
            if (v.judge != judge) {
                continue;
            }
            int right = cases.get(v.c)[9];
            for (Verdict verdict : verdicts) {
                if (right == -1 && verdict.c == v.c && verdict.time == v.time) {
                    right = verdict.guilty;
                }
            }
            if (right != -1) {
                asked++;
                alone += right != v.guilty ? 1 : 0;
            }
        }
        return new int[] {asked, alone};
    }

    private int told(int judge, int what) {
        if (what < 3) {
            return judges[judge][what];
        }
        return switch (what) {
            case 3 -> giftsOfJudge(judge);
            case 4 -> rests[judge] ? 1 : 0;
            case 5 -> (int) votes.stream().filter(v -> v.judge == judge).count();
            default -> doubt(judge)[what - 6];
        };
    }

    private int lateness(int c) {
        int[] row = cases.get(c);
        return open(c) ? Math.max(0, tick - row[8] - due[row[5]]) : 0;
    }

    private int about(int c, int what) {
        int[] row = cases.get(c);
        return switch (what) {
            case 0 -> row[0];
            case 1 -> row[1];
            case 2 -> row[4];
            case 3 -> row[3];
            case 4 -> open(c) ? row[6] : 0;
            case 5 -> giftsOfCase(c);
            case 6 -> lateness(c);
            default -> (int) verdicts.stream().filter(v -> v.c == c).count();
        };
    }

    private int judged(int c, int what) {
        int answer = -4;
        for (Verdict v : verdicts) {
            if (v.c == c) {
                answer = what == 0 ? v.votes : what == 1 ? v.g : v.n;
            }
        }
        return answer;
    }

    private int appeal(int c) {
        if (noCase(c)) {
            return -1;
        }
        int[] row = cases.get(c);
        if (row[4] != 2) {
            return -4;
        }
        row[4] = 3;
        row[6] = Math.min(9, row[6] + 2);
        row[7] = 0;
        row[8] = tick;
        return 1;
    }

    private int known(int c, int guilty) {
        if (noCase(c) || out(guilty, -1, 1)) {
            return -5;
        }
        int was = cases.get(c)[9];
        cases.get(c)[9] = guilty;
        look();
        return was;
    }

    private int late() {
        int answer = -4;
        for (int c = cases.size() - 1; c >= 0; c--) {
            if (lateness(c) > 0 && (answer < 0 || lateness(c) >= lateness(answer))) {
                answer = c;
            }
        }
        return answer;
    }

    private List<Integer> like(int c, int d) {
        List<Integer> found = new ArrayList<>();
        for (int o = 0; o < cases.size(); o++) {
            int differ = 0;
            for (int bit = 1; bit < 256; bit *= 2) {
                int mine = posts.get(cases.get(c)[0])[2] & bit;
                int other = posts.get(cases.get(o)[0])[2] & bit;
                differ += mine != other ? 1 : 0;
            }
            if (o != c && cases.get(o)[1] == cases.get(c)[1] && !open(o) && differ <= d) {
                found.add(o);
            }
        }
        return found;
    }

    private int unlike(List<Integer> found) {
        int guilty = 0;
        for (int c : found) {
            guilty += cases.get(c)[4] == 2 || cases.get(c)[4] == 5 ? 1 : 0;
        }
        int cleared = found.size() - guilty;
        return guilty > cleared ? cleared : guilty < cleared ? guilty : 0;
    }

    private List<Strike> strikes(int writer) {
        List<Integer> order = new ArrayList<>();
        for (int c = 0; c < cases.size(); c++) {
            if (guilt(c) && writerOf(c) == writer && rules[cases.get(c)[1]][2] == 2) {
                order.add(c);
            }
        }
        order.sort((a, b) -> postTick(a) != postTick(b) ? postTick(a) - postTick(b)
            : cases.get(a)[0] != cases.get(b)[0] ? cases.get(a)[0] - cases.get(b)[0] : a - b);
        List<Strike> done = new ArrayList<>();
        for (int c : order) {
            int n = 0;
            for (Strike s : done) {
                n += postTick(c) >= s.tick && postTick(c) <= s.tick + fade - 1 ? 1 : 0;
            }
            done.add(new Strike(c, postTick(c), Math.min(3, n)));
        }
        return done;
    }

    private int writer(int writer, int what) {
        int hold = 0, silent = 0, goneFrom = -1, warned = 0, all = 0, hid = 0;
        for (Strike s : strikes(writer)) {
            hold += tick <= s.tick + fade - 1 ? 1 : 0;
            if (s.level == 1 && tick <= s.tick + quiet - 1 || s.level == 2 && tick <= s.tick + 2 * quiet - 1) {
                silent = 1;
            }
            if (s.level == 3 && (goneFrom == -1 || s.tick < goneFrom)) {
                goneFrom = s.tick;
            }
        }
        for (int c = 0; c < cases.size(); c++) {
            warned += guilt(c) && writerOf(c) == writer && rules[cases.get(c)[1]][2] != 0 ? 1 : 0;
        }
        for (int p = 0; p < posts.size(); p++) {
            all += posts.get(p)[0] == writer ? 1 : 0;
            hid += posts.get(p)[0] == writer && hidden(p) ? 1 : 0;
        }
        return new int[] {hold, silent, goneFrom == -1 ? 0 : 1, warned, all, hid, goneFrom}[what];
    }

    private int level(int c) {
        for (Strike s : strikes(writerOf(c))) {
            if (s.c == c) {
                return s.level;
            }
        }
        return -4;
    }

    private boolean hidden(int post) {
        for (int c = 0; c < cases.size(); c++) {
            if (cases.get(c)[0] == post && guilt(c)) {
                return true;
            }
        }
        return false;
    }

    private int count(int what) {
        int open = 0;
        for (int c = 0; c < cases.size(); c++) {
            open += open(c) ? 1 : 0;
        }
        return new int[] {posts.size(), cases.size(), open, gifts.size(), verdicts.size(), tick}[what];
    }
}
