import java.util.ArrayList;

/**
 * A bench of moderators. ../shared/DOC.md says what each call must do.
 *
 * What a writer has to bear, and how far a judge is doubted, is worked out anew from the cases whenever it
 * is asked: rules, appeals and what is known change the past, so a kept sum would have to be mended each time.
 */
public final class ModeratorsBench {
    public static final int NONE = -1, FULL = -2, THERE = -3, NOT = -4;

    private static final int WRITERS = 40;
    private static final int POSTS = 300;
    private static final int RULES = 8;
    private static final int CASES = 400;
    private static final int JUDGES = 20;
    private static final int GRADES = 3;
    private static final int MOST_LOAD = 20;
    private static final int LAST_TICK = 1000000;

    private static final int OPEN = 0;
    private static final int CLEARED = 1;
    private static final int GUILTY = 2;
    private static final int APPEALED = 3;
    private static final int CLEARED_FOR_GOOD = 4;
    private static final int GUILTY_FOR_GOOD = 5;

    private static final int WARNED = 1;
    private static final int STRIKE = 2;

    private static final int MOST_ASKED = 9;
    private static final int MOST_MORE = 2;
    private static final int TOP_LEVEL = 3;
    private static final int VOTES_FOR_DOUBT = 5;

    private static final int UNKNOWN = -1;
    private static final int KNOWN_REFUSED = -5;

    private static final int NOT_ASKED = 0;
    private static final int STOOD_WITH = 1;
    private static final int STOOD_ALONE = 2;

    private final Rule[] rules = new Rule[RULES];
    private final Judge[] judges = new Judge[JUDGES];
    private final ArrayList<Post> posts = new ArrayList<>();
    private final ArrayList<Case> cases = new ArrayList<>();
    /** In the order in which they were given, so that the last one is the one to undo. */
    private final ArrayList<Gift> gifts = new ArrayList<>();
    private final int[] dueOfGrade = {10, 20, 30};
    private final Ladder ladder = new Ladder();
    private int now = 0;
    private int doubtLimit = 100;
    private int judgements = 0;

    public ModeratorsBench() {
        for (int r = 0; r < RULES; r++) {
            rules[r] = new Rule(r);
        }
        for (int j = 0; j < JUDGES; j++) {
            judges[j] = new Judge(j);
        }
    }

    // ---- settings

    public int tick(int n) {
        if (!within(n, 1, 1000) || n > LAST_TICK - now) {
            return NONE;
        }
        now += n;
        return now;
    }

    public int rule(int rule, int grade, int harm, int follows) {
        Rule changed = ruleAt(rule);
        if (changed == null || !within(grade, 0, GRADES - 1) || !within(harm, 1, 100)
                || !within(follows, 0, STRIKE)) {
            return NONE;
        }
        changed.grade = grade;
        changed.harm = harm;
        changed.follows = follows;
        return 1;
    }

    public int ladder(int fade, int quiet) {
        if (!within(fade, 1, 10000) || !within(quiet, 1, 10000)) {
            return NONE;
        }
        ladder.fade = fade;
        ladder.quiet = quiet;
        return 1;
    }

    public int due(int grade, int ticks) {
        if (!within(grade, 0, GRADES - 1) || !within(ticks, 1, 1000)) {
            return NONE;
        }
        int before = dueOfGrade[grade];
        dueOfGrade[grade] = ticks;
        return before;
    }

    public int limit(int percent) {
        if (!within(percent, 0, 100)) {
            return NONE;
        }
        int before = doubtLimit;
        doubtLimit = percent;
        return before;
    }

    // ---- posts

    public int post(int writer, int reach, int marks) {
        if (!within(writer, 0, WRITERS - 1) || !within(reach, 1, 1000) || !within(marks, 0, 255)) {
            return NONE;
        }
        int number = posts.size();
        if (number >= POSTS) {
            return FULL;
        }
        posts.add(new Post(number, writer, reach, marks, now));
        return number;
    }

    public int complain(int post, int rule) {
        Post blamed = postAt(post);
        Rule broken = ruleAt(rule);
        if (blamed == null || broken == null) {
            return NONE;
        }
        Case there = blamed.caseUnder(rule);
        if (there != null) {
            there.complaints++;
            return there.number;
        }
        int number = cases.size();
        if (number >= CASES) {
            return FULL;
        }
        Case opened = new Case(number, blamed, broken, now);
        cases.add(opened);
        blamed.addCase(opened);
        return number;
    }

    // ---- judges

    public int judge(int judge, int skills, int load, int weight) {
        Judge changed = judgeAt(judge);
        if (changed == null || !within(skills, 0, 255) || !within(load, 0, MOST_LOAD) || !within(weight, 1, 10)) {
            return NONE;
        }
        changed.skills = skills;
        changed.load = load;
        changed.weight = weight;
        return 1;
    }

    public int kin(int judge, int writer, int is) {
        Judge changed = judgeAt(judge);
        if (changed == null || !within(writer, 0, WRITERS - 1) || !within(is, 0, 1)) {
            return NONE;
        }
        int before = asNumber(changed.isKinOf(writer));
        changed.setKin(writer, is == 1);
        return before;
    }

    public int rest(int judge, int is) {
        Judge changed = judgeAt(judge);
        if (changed == null || !within(is, 0, 1)) {
            return NONE;
        }
        int before = asNumber(changed.rests);
        if (is == 1) {
            layToRest(changed);
        } else {
            changed.rests = false;
        }
        return before;
    }

    public int next(int judge) {
        Judge asking = judgeAt(judge);
        if (asking == null) {
            return NONE;
        }
        Case found = nextFor(asking);
        return found == null ? NOT : found.number;
    }

    public int give(int judge) {
        Judge asking = judgeAt(judge);
        if (asking == null) {
            return NONE;
        }
        Case found = nextFor(asking);
        if (found == null) {
            return NOT;
        }
        gifts.add(new Gift(asking, found));
        asking.gifts++;
        found.holders |= asking.bit;
        return found.number;
    }

    public int undo() {
        int last = gifts.size() - 1;
        if (last < 0) {
            return NOT;
        }
        int number = gifts.get(last).held.number;
        takeBack(last);
        return number;
    }

    public int vote(int judge, int c, int guilty) {
        Judge voter = judgeAt(judge);
        Case judgedCase = caseAt(c);
        if (voter == null || judgedCase == null || !within(guilty, 0, 1)) {
            return NONE;
        }
        int gift = giftOf(voter, judgedCase);
        if (gift < 0) {
            return NOT;
        }
        takeBack(gift);
        voter.votes++;
        judgedCase.hearing().cast(voter, guilty == 1);
        settle(judgedCase);
        return judgedCase.state;
    }

    public int may(int judge, int c) {
        Judge asking = judgeAt(judge);
        Case wanted = caseAt(c);
        if (asking == null || wanted == null) {
            return NONE;
        }
        return asNumber(mayHave(asking, wanted));
    }

    public int told(int judge, int what) {
        Judge asked = judgeAt(judge);
        if (asked == null) {
            return NONE;
        }
        switch (what) {
            case 0: return asked.skills;
            case 1: return asked.load;
            case 2: return asked.weight;
            case 3: return asked.gifts;
            case 4: return asNumber(asked.rests);
            case 5: return asked.votes;
            case 6: return askedOf(asked);
            case 7: return stoodAlone(asked);
            default: return NONE;
        }
    }

    // ---- cases

    public int about(int c, int what) {
        Case asked = caseAt(c);
        if (asked == null) {
            return NONE;
        }
        switch (what) {
            case 0: return asked.post.number;
            case 1: return asked.rule.number;
            case 2: return asked.state;
            case 3: return asked.complaints;
            case 4: return asked.isUndecided() ? asked.hearing().asks : 0;
            case 5: return asked.giftsOut();
            case 6: return lateBy(asked);
            case 7: return asked.timesJudged();
            default: return NONE;
        }
    }

    public int judged(int c, int what) {
        Case asked = caseAt(c);
        if (asked == null || !within(what, 0, 2)) {
            return NONE;
        }
        Hearing latest = asked.latestJudgement();
        if (latest == null) {
            return NOT;
        }
        switch (what) {
            case 0: return latest.votes();
            case 1: return latest.guiltyWeight;
            default: return latest.otherWeight;
        }
    }

    public int appeal(int c) {
        Case doubted = caseAt(c);
        if (doubted == null) {
            return NONE;
        }
        if (doubted.state != GUILTY) {
            return NOT;
        }
        doubted.hearAgain(now);
        return 1;
    }

    public int known(int c, int guilty) {
        Case subject = caseAt(c);
        if (subject == null || !within(guilty, UNKNOWN, 1)) {
            return KNOWN_REFUSED;
        }
        int before = subject.knownGuilt;
        subject.knownGuilt = guilty;
        restDoubtedJudges();
        return before;
    }

    public int late() {
        int latest = NOT;
        int most = 0;
        for (int c = 0; c < cases.size(); c++) {
            int by = lateBy(cases.get(c));
            if (by > most) {
                most = by;
                latest = c;
            }
        }
        return latest;
    }

    public int like(int c, int d) {
        Case asked = caseAt(c);
        if (asked == null || !within(d, 0, 8)) {
            return NONE;
        }
        return alike(asked, d, false) + alike(asked, d, true);
    }

    public int unlike(int c, int d) {
        Case asked = caseAt(c);
        if (asked == null || !within(d, 0, 8)) {
            return NONE;
        }
        int cleared = alike(asked, d, false);
        int guilty = alike(asked, d, true);
        return cleared == guilty ? 0 : Math.min(cleared, guilty);
    }

    // ---- writers

    public int writer(int writer, int what) {
        if (!within(writer, 0, WRITERS - 1)) {
            return NONE;
        }
        switch (what) {
            case 0:
                climbLadder(writer, null);
                return ladder.holdingAt(now);
            case 1:
                climbLadder(writer, null);
                return asNumber(ladder.silent);
            case 2:
                climbLadder(writer, null);
                return asNumber(ladder.goneFrom >= 0);
            case 3:
                return timesWarned(writer);
            case 4:
                return postsOf(writer, false);
            case 5:
                return postsOf(writer, true);
            case 6:
                climbLadder(writer, null);
                return ladder.goneFrom;
            default:
                return NONE;
        }
    }

    public int level(int c) {
        Case asked = caseAt(c);
        if (asked == null) {
            return NONE;
        }
        if (!asked.bringsStrike()) {
            return NOT;
        }
        climbLadder(asked.post.author, asked);
        return ladder.level;
    }

    public int hidden(int post) {
        Post asked = postAt(post);
        if (asked == null) {
            return NONE;
        }
        return asNumber(asked.isHidden());
    }

    public int count(int what) {
        switch (what) {
            case 0: return posts.size();
            case 1: return cases.size();
            case 2: return undecidedCases();
            case 3: return gifts.size();
            case 4: return judgements;
            case 5: return now;
            default: return NONE;
        }
    }

    public int check() {
        boolean withinAsked = true;
        boolean votedOnce = true;
        for (int c = 0; c < cases.size(); c++) {
            Case looked = cases.get(c);
            withinAsked = withinAsked && looked.staysWithinAsked();
            votedOnce = votedOnce && looked.everyJudgeOnce();
        }
        boolean withinLoad = true;
        for (Judge looked : judges) {
            withinLoad = withinLoad && looked.gifts <= MOST_LOAD;
        }
        return asNumber(!withinAsked) + asNumber(!withinLoad) + asNumber(!votedOnce);
    }

    // ---- looking up: null if there is no such thing

    private Rule ruleAt(int r) {
        return within(r, 0, RULES - 1) ? rules[r] : null;
    }

    private Judge judgeAt(int j) {
        return within(j, 0, JUDGES - 1) ? judges[j] : null;
    }

    private Post postAt(int p) {
        return within(p, 0, posts.size() - 1) ? posts.get(p) : null;
    }

    private Case caseAt(int c) {
        return within(c, 0, cases.size() - 1) ? cases.get(c) : null;
    }

    private static boolean within(int n, int least, int most) {
        return n >= least && n <= most;
    }

    private static int asNumber(boolean holds) {
        return holds ? 1 : 0;
    }

    // ---- gifts

    private static boolean mayHave(Judge judge, Case wanted) {
        return wanted.isUndecided() && wanted.wantsJudges() && judge.isFree()
                && judge.isSkilledIn(wanted.rule.number) && !judge.isKinOf(wanted.post.author)
                && !wanted.isHeldBy(judge) && !wanted.hasVoteOf(judge);
    }

    private Case nextFor(Judge judge) {
        Case best = null;
        int most = 0;
        for (int c = 0; c < cases.size(); c++) {
            Case looked = cases.get(c);
            int urgency = looked.rule.harm * looked.post.reach;
            if (urgency > most && mayHave(judge, looked)) {
                best = looked;
                most = urgency;
            }
        }
        return best;
    }

    private int giftOf(Judge judge, Case held) {
        for (int i = 0; i < gifts.size(); i++) {
            Gift gift = gifts.get(i);
            if (gift.judge == judge && gift.held == held) {
                return i;
            }
        }
        return -1;
    }

    private void takeBack(int index) {
        if (!within(index, 0, gifts.size() - 1)) {
            return;
        }
        Gift gift = gifts.remove(index);
        gift.judge.gifts--;
        gift.held.holders &= ~gift.judge.bit;
    }

    private void layToRest(Judge judge) {
        judge.rests = true;
        for (int i = gifts.size() - 1; i >= 0; i--) {
            if (gifts.get(i).judge == judge) {
                takeBack(i);
            }
        }
    }

    // ---- judging

    private void settle(Case voted) {
        Hearing hearing = voted.hearing();
        if (hearing.votes() < hearing.asks) {
            return;
        }
        if (!hearing.isAgreed() && hearing.mayAskMore()) {
            hearing.askMore();
            return;
        }
        voted.close();
        judgements++;
        restDoubtedJudges();
    }

    private void restDoubtedJudges() {
        for (Judge looked : judges) {
            int asked = askedOf(looked);
            if (asked >= VOTES_FOR_DOUBT && stoodAlone(looked) * 100 > doubtLimit * asked) {
                layToRest(looked);
            }
        }
    }

    private int askedOf(Judge judge) {
        int asked = 0;
        for (int c = 0; c < cases.size(); c++) {
            asked += asNumber(cases.get(c).standOf(judge) != NOT_ASKED);
        }
        return asked;
    }

    private int stoodAlone(Judge judge) {
        int alone = 0;
        for (int c = 0; c < cases.size(); c++) {
            alone += asNumber(cases.get(c).standOf(judge) == STOOD_ALONE);
        }
        return alone;
    }

    // ---- counting cases

    private int lateBy(Case waiting) {
        if (!waiting.isUndecided() || !within(waiting.grade, 0, dueOfGrade.length - 1)) {
            return 0;
        }
        return Math.max(0, now - waiting.since - dueOfGrade[waiting.grade]);
    }

    private int alike(Case model, int mostBits, boolean guilty) {
        int found = 0;
        for (int c = 0; c < cases.size(); c++) {
            Case other = cases.get(c);
            if (other != model && other.isAlike(model, mostBits) && other.guiltStands() == guilty) {
                found++;
            }
        }
        return found;
    }

    private int undecidedCases() {
        int found = 0;
        for (int c = 0; c < cases.size(); c++) {
            found += asNumber(cases.get(c).isUndecided());
        }
        return found;
    }

    // ---- what follows

    /** Goes through a writer's strikes as far as one case, or through all of them if that is null. */
    private void climbLadder(int author, Case last) {
        ladder.restart();
        // Posts come in the order of their ticks, and each one's cases in the order of their numbers.
        for (int p = 0; p < posts.size(); p++) {
            Post looked = posts.get(p);
            if (looked.author != author) {
                continue;
            }
            for (Case each = looked.firstCase; each != null; each = each.nextOfPost) {
                if (each.bringsStrike()) {
                    ladder.climb(looked.came, now);
                }
                if (each == last) {
                    return;
                }
            }
        }
    }

    private int timesWarned(int author) {
        int warned = 0;
        for (int c = 0; c < cases.size(); c++) {
            Case looked = cases.get(c);
            warned += asNumber(looked.post.author == author && looked.guiltStands() && looked.rule.follows >= WARNED);
        }
        return warned;
    }

    private int postsOf(int author, boolean hiddenAlone) {
        int found = 0;
        for (int p = 0; p < posts.size(); p++) {
            Post looked = posts.get(p);
            found += asNumber(looked.author == author && (!hiddenAlone || looked.isHidden()));
        }
        return found;
    }

    // ---- the things of the bench

    private static final class Rule {
        private final int number;
        private int grade = 0;
        private int harm = 1;
        private int follows = 0;

        private Rule(int number) {
            this.number = number;
        }
    }

    private static final class Post {
        private final int number;
        private final int author;
        private final int reach;
        private final int marks;
        private final int came;
        private Case firstCase = null;
        private Case lastCase = null;

        private Post(int number, int author, int reach, int marks, int came) {
            this.number = number;
            this.author = author;
            this.reach = reach;
            this.marks = marks;
            this.came = came;
        }

        private void addCase(Case opened) {
            if (lastCase == null) {
                firstCase = opened;
            } else {
                lastCase.nextOfPost = opened;
            }
            lastCase = opened;
        }

        private Case caseUnder(int ruleNumber) {
            for (Case each = firstCase; each != null; each = each.nextOfPost) {
                if (each.rule.number == ruleNumber) {
                    return each;
                }
            }
            return null;
        }

        private boolean isHidden() {
            for (Case each = firstCase; each != null; each = each.nextOfPost) {
                if (each.guiltStands()) {
                    return true;
                }
            }
            return false;
        }
    }

    private static final class Judge {
        private final int bit;
        private int skills = 0;
        private long kinBits = 0L;
        private int load = 2;
        private int weight = 1;
        private boolean rests = false;
        private int gifts = 0;
        private int votes = 0;

        private Judge(int number) {
            this.bit = 1 << number;
        }

        private boolean isFree() {
            return !rests && gifts < load;
        }

        private boolean isSkilledIn(int ruleNumber) {
            return (skills >> ruleNumber & 1) == 1;
        }

        private boolean isKinOf(int author) {
            return (kinBits >> author & 1L) == 1L;
        }

        private void setKin(int author, boolean is) {
            if (is) {
                kinBits |= 1L << author;
            } else {
                kinBits &= ~(1L << author);
            }
        }
    }

    private static final class Gift {
        private final Judge judge;
        private final Case held;

        private Gift(Judge judge, Case held) {
            this.judge = judge;
            this.held = held;
        }
    }

    /** One time that a case is heard: at first, or behind an appeal. Judges stand in it as bits. */
    private static final class Hearing {
        private int asks;
        private int timesMore = 0;
        private int voters = 0;
        private int guiltyVoters = 0;
        private int guiltyWeight = 0;
        private int otherWeight = 0;
        private boolean over = false;

        private Hearing(int asks) {
            this.asks = asks;
        }

        private int votes() {
            return Integer.bitCount(voters);
        }

        private void cast(Judge voter, boolean guilty) {
            voters |= voter.bit;
            if (guilty) {
                guiltyVoters |= voter.bit;
                guiltyWeight += voter.weight;
            } else {
                otherWeight += voter.weight;
            }
        }

        private boolean isAgreed() {
            int twoThirds = 2 * guiltyWeight + 2 * otherWeight;
            return 3 * guiltyWeight >= twoThirds || 3 * otherWeight >= twoThirds;
        }

        private boolean mayAskMore() {
            return timesMore < MOST_MORE && asks <= MOST_ASKED - 2;
        }

        private void askMore() {
            asks += 2;
            timesMore++;
        }

        private boolean findsGuilty() {
            return guiltyWeight > otherWeight;
        }

        private boolean hasVoter(Judge judge) {
            return (voters & judge.bit) != 0;
        }

        private int standAgainst(Judge judge, int knownGuilt) {
            if (!hasVoter(judge) || (knownGuilt == UNKNOWN && !over)) {
                return NOT_ASKED;
            }
            boolean right = knownGuilt == UNKNOWN ? findsGuilty() : knownGuilt == 1;
            boolean said = (guiltyVoters & judge.bit) != 0;
            return said == right ? STOOD_WITH : STOOD_ALONE;
        }
    }

    private static final class Case {
        private final int number;
        private final Post post;
        private final Rule rule;
        private final int grade;
        private final Hearing first;
        /** Null until there is an appeal. */
        private Hearing second = null;
        private int since;
        private int complaints = 1;
        private int state = OPEN;
        private int knownGuilt = UNKNOWN;
        private int holders = 0;
        private Case nextOfPost = null;

        private Case(int number, Post post, Rule rule, int since) {
            this.number = number;
            this.post = post;
            this.rule = rule;
            this.grade = rule.grade;
            this.first = new Hearing(1 + 2 * rule.grade);
            this.since = since;
        }

        private Hearing hearing() {
            return second == null ? first : second;
        }

        private boolean isUndecided() {
            return state == OPEN || state == APPEALED;
        }

        private boolean guiltStands() {
            return state == GUILTY || state == APPEALED || state == GUILTY_FOR_GOOD;
        }

        private boolean bringsStrike() {
            return guiltStands() && rule.follows == STRIKE;
        }

        private int giftsOut() {
            return Integer.bitCount(holders);
        }

        private boolean wantsJudges() {
            return hearing().asks > hearing().votes() + giftsOut();
        }

        private boolean isHeldBy(Judge judge) {
            return (holders & judge.bit) != 0;
        }

        private boolean hasVoteOf(Judge judge) {
            return first.hasVoter(judge) || second != null && second.hasVoter(judge);
        }

        private void hearAgain(int tick) {
            second = new Hearing(Math.min(MOST_ASKED, first.asks + 2));
            since = tick;
            state = APPEALED;
        }

        private void close() {
            Hearing ended = hearing();
            ended.over = true;
            if (state == APPEALED) {
                state = ended.findsGuilty() ? GUILTY_FOR_GOOD : CLEARED_FOR_GOOD;
            } else {
                state = ended.findsGuilty() ? GUILTY : CLEARED;
            }
        }

        private Hearing latestJudgement() {
            if (second != null && second.over) {
                return second;
            }
            return first.over ? first : null;
        }

        private int timesJudged() {
            return asNumber(first.over) + asNumber(second != null && second.over);
        }

        private boolean isAlike(Case model, int mostBits) {
            return !isUndecided() && rule == model.rule
                    && Integer.bitCount(post.marks ^ model.post.marks) <= mostBits;
        }

        /** A judge votes once on a case at most, so at most one of the two hearings asks of it. */
        private int standOf(Judge judge) {
            int stand = first.standAgainst(judge, knownGuilt);
            if (stand == NOT_ASKED && second != null) {
                stand = second.standAgainst(judge, knownGuilt);
            }
            return stand;
        }

        private boolean staysWithinAsked() {
            return !isUndecided() || hearing().votes() + giftsOut() <= hearing().asks;
        }

        private boolean everyJudgeOnce() {
            int again = second == null ? 0 : second.voters;
            return (first.voters & again) == 0 && ((first.voters | again) & holders) == 0;
        }
    }

    /** The strikes of one writer, climbed in their order. One row serves every question, to spare memory. */
    private static final class Ladder {
        private int fade = 100;
        private int quiet = 10;
        private final int[] strikeTicks = new int[CASES];
        private int strikes = 0;
        private int faded = 0;
        private int level = 0;
        private boolean silent = false;
        private int goneFrom = -1;

        private void restart() {
            strikes = 0;
            faded = 0;
            level = 0;
            silent = false;
            goneFrom = -1;
        }

        private void climb(int tick, int now) {
            level = Math.min(TOP_LEVEL, holdingAt(tick));
            if (strikes < strikeTicks.length) {
                strikeTicks[strikes] = tick;
                strikes++;
            }
            if (level < TOP_LEVEL) {
                silent = silent || now - tick < level * quiet;
            } else if (goneFrom < 0) {
                goneFrom = tick;
            }
        }

        /** Ticks are asked in their order and all strikes fade alike, so the oldest fade first. */
        private int holdingAt(int tick) {
            while (faded < strikes && tick - strikeTicks[faded] >= fade) {
                faded++;
            }
            return strikes - faded;
        }
    }
}
