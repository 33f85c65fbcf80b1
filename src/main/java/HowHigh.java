import java.util.Arrays;

/** A coast behind a wall, a sea that rises by one of some paths, and what raising the wall comes to. */
public final class HowHigh {
    public static final int NONE = -1, BAD = -2, STATE = -3, FULL = -4;
    public static final long NO = -4611686018427387904L;

    private static final int NO_SUCH = -5, NOT_WITHIN = -7;
    private static final int MISSING = -11, OUTSIDE = -12, UNLIKE = -13, BELOW_NOTHING = -14;
    private static final int FAULT = -100;
    private static final int HIGHEST_WALL = 99, MOST_BEHIND = 9999, MOST_YEARS = 16;
    private static final String FIRST_TEXT =
        "harm over * behind ; cost 20 + up * wall ; grow year < 9 ;";

    private final Coast coast = new Coast();
    private final Reader reader = new Reader();
    private final Text[] texts = new Text[6];
    private int textCount;
    private final Rule[] rules = new Rule[8];
    private int ruleCount;
    // Stands in for every law that is only asked about, as all calls share one room.
    private final Rule askedLaw = new Rule(Rule.LAW, 0, 0);
    private final Course course = new Course();
    private final Planner planner = new Planner(coast);
    private final int[] streetHeights = new int[8];
    private final int[] streetWorths = new int[8];
    private int streetCount;
    private final Bay bay = new Bay(coast);
    private final Sheet[] sheets = new Sheet[4];
    private final Image kept = new Image();

    public HowHigh() {
        for (int s = 0; s < sheets.length; s++) {
            sheets[s] = new Sheet();
        }
        reader.load(FIRST_TEXT);
        texts[0] = reader.read();
        reader.clear();
        textCount = 1;
        coast.law = texts[0];
    }

    // ---- the coast

    public int set(int what, int v) {
        if (!within(what, 0, 3)) {
            return NONE;
        }
        if (!within(v, what == 0 ? 1 : 0, mostOf(what))) {
            return BAD;
        }
        int was = count(what);
        coast.put(what, v);
        return was;
    }

    private static int mostOf(int what) {
        switch (what) {
            case 0: return MOST_YEARS;
            case 1: return 60;
            case 2: return 999;
            default: return 1;
        }
    }

    public int count(int what) {
        switch (what) {
            case 0: return coast.years;
            case 1: return coast.wall;
            case 2: return coast.behind;
            case 3: return coast.broad;
            case 4: return coast.pathCount;
            case 5: return coast.stormCount;
            case 6: return ruleCount;
            case 7: return streetCount;
            case 8: return bay.townCount;
            case 9: return textCount;
            case 10: return coast.lawNumber;
            case 11: return reader.size;
            default: return BAD;
        }
    }

    public int path(int w, int from, int r, int later) {
        if (!isWeight(w) || !within(from, 0, 30) || !within(r, 0, 40)) {
            return BAD;
        }
        if (later < 0 || later / 100 > 15 || later % 100 > 40) {
            return BAD;
        }
        return coast.addPath(w, from, r, later);
    }

    public int weigh(int p, int w) {
        if (!coast.hasPath(p)) {
            return NONE;
        }
        if (!isWeight(w)) {
            return BAD;
        }
        return coast.putWeight(p, w);
    }

    public int storm(int h, int c) {
        if (!within(h, 0, 40) || !within(c, 1, 1000)) {
            return BAD;
        }
        if (coast.stormsInAll() + c > 1000) {
            return STATE;
        }
        return coast.addStorm(h, c);
    }

    public int level(int p, int y) {
        if (!coast.hasPath(p)) {
            return NO_SUCH;
        }
        return isAnyYear(y) ? coast.levelAt(p, y) : NOT_WITHIN;
    }

    public int flood(int p, int y, int h) {
        if (!coast.hasPath(p)) {
            return NO_SUCH;
        }
        if (!isAnyYear(y) || !isWall(h)) {
            return NOT_WITHIN;
        }
        return coast.floodsOver(h, coast.levelAt(p, y));
    }

    public long harm(int p, int y, int h, int rich) {
        if (!coast.hasPath(p) || !isAnyYear(y) || !isWall(h) || !isRich(rich)) {
            return NO;
        }
        return coast.harmAt(coast.levelAt(p, y), h, y, rich);
    }

    public int cost(int up, int h, int y, int rich) {
        if (!within(up, 0, 99) || !isWall(h) || !isAnyYear(y) || !isRich(rich)) {
            return BAD;
        }
        return coast.costAt(up, h, y, rich, coast.broad);
    }

    public int behindThen(int y) {
        if (!within(y, 0, MOST_YEARS)) {
            return BAD;
        }
        int rich = coast.behind;
        for (int i = 0; i < y; i++) {
            rich = coast.grown(rich, i);
        }
        return rich;
    }

    public int seen(int y, int l) {
        return isAnyYear(y) ? coast.pathsAt(y, l) : BAD;
    }

    public long think(int p, int y, int l, int part) {
        if (!coast.hasPath(p) || !isAnyYear(y) || !isPart(part)) {
            return NO;
        }
        int like = coast.pathsAt(y, l);
        if (like == 0) {
            return lowest(0, 1, part);
        }
        return lowest(coast.weightOf(like & 1 << p), coast.weightOf(like), part);
    }

    // ---- rules, the law

    public int rule(int kind, int more, int rest, int s) {
        if (!within(kind, 0, 5) || !within(more, 0, 1000) || rest < 0) {
            return BAD;
        }
        if (rest / 100 > 9 || rest % 100 > 20) {
            return BAD;
        }
        if (kind == Rule.TOLD) {
            int refused = refusedRow(sheetAt(s), MOST_YEARS, 20);
            if (refused != 0) {
                return refused;
            }
        }
        if (ruleCount < 0 || ruleCount >= rules.length) {
            return FULL;
        }
        Rule made = new Rule(kind, more, rest);
        if (kind == Rule.TOLD) {
            made.tell(sheetAt(s));
        }
        rules[ruleCount] = made;
        return ruleCount++;
    }

    /** What is refused of a sheet that has to hold so many numbers from 0 to most; 0, if nothing is. */
    private static int refusedRow(Sheet told, int size, int most) {
        if (told == null) {
            return BAD;
        }
        if (told.isMissing()) {
            return MISSING;
        }
        return told.size == size && told.holdsOnly(most) ? 0 : BAD;
    }

    public int ruleTold(int r, int what) {
        Rule asked = ruleAt(r);
        if (asked == null) {
            return NO_SUCH;
        }
        switch (what) {
            case 0: return asked.kind;
            case 1: return asked.more;
            case 2: return asked.step;
            case 3: return asked.near;
            default: return within(what, 4, 19) ? asked.toldFor(what - 4) : NOT_WITHIN;
        }
    }

    public int feed(long w, int n) {
        if (!within(n, 1, 8)) {
            return BAD;
        }
        return reader.add(w, n) ? reader.size : FULL;
    }

    public int text() {
        if (textCount < 0 || textCount >= texts.length) {
            return FULL;
        }
        Text came = reader.read();
        reader.clear();
        if (came == null) {
            return FAULT - reader.place;
        }
        texts[textCount] = came;
        return textCount++;
    }

    public int force(int t) {
        int was = coast.lawNumber;
        return makeLaw(t) ? was : BAD;
    }

    private boolean makeLaw(int t) {
        if (t < 0 || t >= texts.length || texts[t] == null) {
            return false;
        }
        coast.putLaw(texts[t], t);
        return true;
    }

    // ---- what rules come to

    public long total(int r, int p) {
        return followed(r, p) ? course.sum() : NO;
    }

    public long spent(int r, int p) {
        return followed(r, p) ? course.paid : NO;
    }

    public long mean(int r, int part) {
        Rule asked = ruleAt(r);
        return asked == null ? NO : meanOf(asked, part);
    }

    public int row(int r, int p, int y, int what) {
        if (!followed(r, p)) {
            return NO_SUCH;
        }
        if (!isYear(y) || !within(what, 0, 3)) {
            return NOT_WITHIN;
        }
        return course.told(y, what);
    }

    public int judge(int s, int m) {
        Sheet plan = sheetAt(s);
        if (plan == null || !isMany(m)) {
            return BAD;
        }
        int refused = refusedRow(plan, coast.years, 20);
        if (refused != 0) {
            return refused;
        }
        int wall = coast.wall;
        for (int y = 0; y < coast.years; y++) {
            wall = Math.min(wall + plan.at(y), HIGHEST_WALL);
            for (int p = 0; p < coast.pathCount; p++) {
                if (coast.floodsOver(wall, coast.levelAt(p, y)) > m) {
                    return y;
                }
            }
        }
        return -1;
    }

    public long drawn(int r, int seed, int what) {
        Rule asked = ruleAt(r);
        if (asked == null || !within(seed, 0, 99999) || !isPart(what)) {
            return NO;
        }
        int all = coast.weightOfAll();
        if (all <= 0) {
            return 0;
        }
        long lot = lotBehind(seed + 1);
        int p = coast.pathByLot((int) (lot % all));
        course.follow(coast, asked, p);
        int floods = 0;
        long harms = 0;
        for (int y = 0; y < coast.years; y++) {
            lot = lotBehind(lot);
            int storm = coast.stormByLot((int) (lot % 1000));
            int harmed = course.harmOfStorm(coast, p, y, storm);
            if (harmed >= 0) {
                floods++;
                harms += harmed;
            }
        }
        return what == 0 ? floods : harms;
    }

    private static long lotBehind(long lot) {
        return lot * 48271 % 2147483647;
    }

    private boolean followed(int r, int p) {
        Rule asked = ruleAt(r);
        if (asked == null || !coast.hasPath(p)) {
            return false;
        }
        course.follow(coast, asked, p);
        return true;
    }

    /** What a rule comes to on all paths together, each as often as its weight says. */
    private long weighedSum(Rule asked) {
        long sum = 0;
        for (int p = 0; p < coast.pathCount; p++) {
            course.follow(coast, asked, p);
            sum += coast.weightOf(1 << p) * course.sum();
        }
        return sum;
    }

    private long meanOf(Rule asked, int part) {
        return isPart(part) ? meanBy(weighedSum(asked), part) : NO;
    }

    /** A sum over all paths by their weights, as a mean in whole units. */
    private long meanBy(long sum, int part) {
        int all = coast.weightOfAll();
        return all <= 0 ? lowest(0, 1, part) : lowest(sum, 1000L * all, part);
    }

    // ---- the best

    public long best(int p, int part) {
        if (!isPart(part) || p != -1 && !coast.hasPath(p)) {
            return NO;
        }
        if (p == -1) {
            return meanBy(planner.bestOn(-1).sum, part);
        }
        return lowest(planner.bestOn(p).sum, 1000, part);
    }

    public int planned(int p, int y) {
        if (!coast.hasPath(p) && (p != -1 || coast.pathCount == 0)) {
            return NO_SUCH;
        }
        return isYear(y) ? planner.bestOn(p).raiseIn(y) : NOT_WITHIN;
    }

    public long know(int part) {
        if (!isPart(part)) {
            return NO;
        }
        long sum = planner.bestOn(-1).sum;
        for (int p = 0; p < coast.pathCount; p++) {
            sum -= coast.weightOf(1 << p) * planner.bestOn(p).sum;
        }
        return meanBy(sum, part);
    }

    public long waits(int n, int part) {
        if (!within(n, 0, MOST_YEARS) || !isPart(part)) {
            return NO;
        }
        return meanBy(planner.leastIf(n, coast.broad) - planner.bestOn(-1).sum, part);
    }

    public long broadWorth(int part) {
        if (!isPart(part)) {
            return NO;
        }
        return meanBy(planner.leastIf(0, 0) - planner.leastIf(0, 1), part);
    }

    public int decided() {
        int last = -1;
        for (int p = 0; p < coast.pathCount; p++) {
            int first = planner.bestOn(p).firstRaise(coast.years);
            if (first < 0) {
                return -1;
            }
            last = Math.max(last, first);
        }
        return last;
    }

    public long regret(int r, int p) {
        return followed(r, p) ? course.sum() - planner.bestOn(p).sum : NO;
    }

    public long worst(int r) {
        Rule asked = ruleAt(r);
        return asked == null || coast.pathCount == 0 ? NO : worstOf(asked);
    }

    private long worstOf(Rule asked) {
        long worst = NO;
        for (int p = 0; p < coast.pathCount; p++) {
            course.follow(coast, asked, p);
            worst = Math.max(worst, course.sum() - planner.bestOn(p).sum);
        }
        return worst;
    }

    public int sure(int what) {
        if (!isPart(what)) {
            return BAD;
        }
        int surest = -1;
        long least = 0;
        for (int r = 0; r < ruleCount; r++) {
            Rule asked = ruleAt(r);
            if (asked != null) {
                long now = what == 0 ? worstOf(asked) : weighedSum(asked);
                if (surest < 0 || now < least) {
                    surest = r;
                    least = now;
                }
            }
        }
        return surest;
    }

    public long thousand(int m, int part) {
        if (!isMany(m)) {
            return NO;
        }
        askedLaw.more = m;
        return meanOf(askedLaw, part);
    }

    public int price(int most) {
        if (!within(most, 0, 999999)) {
            return BAD;
        }
        long bound = 1000L * most * coast.weightOfAll();
        for (int m = 0; m <= 1000; m += 50) {
            askedLaw.more = m;
            if (weighedSum(askedLaw) <= bound) {
                return m;
            }
        }
        return -1;
    }

    // ---- streets, towns

    public int street(int h, int v) {
        if (!isHeight(h) || !isWorth(v)) {
            return BAD;
        }
        if (streetCount < 0 || streetCount >= streetHeights.length || streetCount >= streetWorths.length) {
            return FULL;
        }
        streetHeights[streetCount] = h;
        streetWorths[streetCount] = v;
        return streetCount++;
    }

    public int when(int t, int p, int m) {
        if (!hasStreet(t) || !coast.hasPath(p)) {
            return NO_SUCH;
        }
        return isMany(m) ? leftIn(t, p, m) : NOT_WITHIN;
    }

    public int away(int p, int y, int m, int what) {
        if (!coast.hasPath(p)) {
            return NO_SUCH;
        }
        if (!isYear(y) || !isMany(m) || !isPart(what)) {
            return NOT_WITHIN;
        }
        int left = 0;
        int worth = 0;
        for (int t = 0; t < streetCount && t < streetWorths.length; t++) {
            int year = leftIn(t, p, m);
            if (year >= 0 && year <= y) {
                left |= 1 << t;
            } else {
                worth += streetWorths[t];
            }
        }
        return what == 0 ? left : worth;
    }

    private boolean hasStreet(int t) {
        return t >= 0 && t < streetCount && t < streetHeights.length && t < streetWorths.length;
    }

    /** The first year in which a street is flooded too often; -1, if there is none. */
    private int leftIn(int t, int p, int m) {
        int h = hasStreet(t) ? streetHeights[t] : 0;
        for (int y = 0; y < coast.years; y++) {
            if (coast.floodsOver(h, coast.levelAt(p, y)) > m) {
                return y;
            }
        }
        return -1;
    }

    public int town(int h, int v) {
        return isHeight(h) && isWorth(v) ? bay.addTown(h, v) : BAD;
    }

    public int push(int v) {
        if (!within(v, 0, 9)) {
            return BAD;
        }
        int was = bay.push;
        bay.push = v;
        return was;
    }

    public long pays(int t, int p, int y, int up, int set) {
        if (!bay.hasTown(t) || !isRaisedIn(p, y, up) || !within(set, 0, bay.allTowns())) {
            return NO;
        }
        bay.look(p, y, up);
        return bay.payOf(t, set);
    }

    public int rests(int p, int y, int up) {
        if (!isRaisedIn(p, y, up)) {
            return BAD;
        }
        bay.look(p, y, up);
        int resting = 0;
        for (int set = 0; set <= bay.allTowns(); set++) {
            if (bay.isRest(set)) {
                resting |= 1 << set;
            }
        }
        return resting;
    }

    public int together(int p, int y, int up) {
        if (!isRaisedIn(p, y, up)) {
            return BAD;
        }
        bay.look(p, y, up);
        int choice = 0;
        for (int set = 1; set <= bay.allTowns(); set++) {
            if (bay.payOfAll(set) < bay.payOfAll(choice)) {
                choice = set;
            }
        }
        return choice;
    }

    public int joint(int set, int p, int y, int m) {
        if (!within(set, 1, bay.allTowns()) || !coast.hasPath(p) || !isYear(y) || !isMany(m)) {
            return BAD;
        }
        bay.look(p, y, 0);
        return bay.oneWall(set, m);
    }

    public int join(int s, int p, int y, int m) {
        Sheet parts = sheetAt(s);
        if (parts == null || !coast.hasPath(p) || !isYear(y) || !isMany(m)) {
            return BAD;
        }
        int refused = refusedRow(parts, bay.townCount, 99999);
        if (refused != 0) {
            return refused;
        }
        bay.look(p, y, 0);
        int all = bay.allTowns();
        for (int set = 1; set <= all; set++) {
            if (parts.sumOf(set) > bay.oneWall(set, m)) {
                return set;
            }
        }
        return parts.sumOf(all) < bay.oneWall(all, m) ? all : -1;
    }

    public int image() {
        kept.keep(coast, bay);
        return coast.pathCount;
    }

    public int back() {
        if (!kept.isThere) {
            return STATE;
        }
        kept.giveBack(coast, bay);
        makeLaw(kept.lawNumber);
        return coast.pathCount;
    }

    // ---- the host

    public int sheet(int s, int sort, int n) {
        Sheet asked = sheetAt(s);
        if (asked == null || !within(sort, -1, 2)) {
            return BAD;
        }
        if (sort == -1) {
            asked.become(sort, 0);
            return 1;
        }
        if (n > 40) {
            return BAD;
        }
        if (n < 0) {
            return BELOW_NOTHING;
        }
        asked.become(sort, n);
        return 1;
    }

    public int cell(int s, int i, int v) {
        Sheet asked = sheetAt(s);
        if (asked == null) {
            return BAD;
        }
        if (asked.isMissing()) {
            return MISSING;
        }
        return asked.put(i, v) ? 1 : OUTSIDE;
    }

    public int copy(int s, int i, int other, int j, int n) {
        Sheet from = sheetAt(s);
        Sheet to = sheetAt(other);
        if (from == null || to == null) {
            return BAD;
        }
        if (from.isMissing() || to.isMissing()) {
            return MISSING;
        }
        if (from.sort != to.sort) {
            return UNLIKE;
        }
        if (!from.reaches(i, n) || !to.reaches(j, n)) {
            return OUTSIDE;
        }
        System.arraycopy(from.numbers, i, to.numbers, j, n);
        return n;
    }

    public int stormsBy(int s, int sort, int at, int n) {
        Sheet told = sheetAt(s);
        if (told == null || !within(sort, 0, 2) || !within(n, 0, 6)) {
            return BAD;
        }
        if (told.isMissing()) {
            return MISSING;
        }
        if (told.sort != sort) {
            return UNLIKE;
        }
        int came = 0;
        for (int k = 0; k < n; k++) {
            // A place that is told may lie so far out that two more would wrap.
            if (!within(at, 0, 40) || !told.reaches(at + 2 * k, 2)) {
                return OUTSIDE;
            }
            if (storm(told.at(at + 2 * k), told.at(at + 2 * k + 1)) >= 0) {
                came++;
            }
        }
        return came;
    }

    public int taken(int i, int kind) {
        if (!within(kind, 0, 6)) {
            return BAD;
        }
        if (!within(i, 0, 15)) {
            return OUTSIDE;
        }
        return i < 8 ? takenStreet(i, kind) : takenRule(i - 8, kind);
    }

    private int takenStreet(int t, int kind) {
        if (!hasStreet(t)) {
            return MISSING;
        }
        return kind == 6 ? streetWorths[t] : UNLIKE;
    }

    private int takenRule(int r, int kind) {
        Rule asked = ruleAt(r);
        if (asked == null) {
            return MISSING;
        }
        return asked.isOne(kind) ? r : UNLIKE;
    }

    // ---- what numbers may be

    private static boolean within(int v, int least, int most) {
        return v >= least && v <= most;
    }

    private static boolean isWeight(int w) {
        return within(w, 1, 99);
    }

    private static boolean isAnyYear(int y) {
        return within(y, 0, MOST_YEARS - 1);
    }

    private boolean isYear(int y) {
        return within(y, 0, coast.years - 1);
    }

    private static boolean isWall(int h) {
        return within(h, 0, HIGHEST_WALL);
    }

    private static boolean isRich(int rich) {
        return within(rich, 0, MOST_BEHIND);
    }

    private static boolean isMany(int m) {
        return within(m, 0, 1000);
    }

    private static boolean isPart(int part) {
        return within(part, 0, 1);
    }

    private static boolean isHeight(int h) {
        return within(h, 0, 60);
    }

    private static boolean isWorth(int v) {
        return within(v, 0, 999);
    }

    private boolean isRaisedIn(int p, int y, int up) {
        return coast.hasPath(p) && isYear(y) && within(up, 1, 30);
    }

    private Rule ruleAt(int r) {
        return r >= 0 && r < rules.length ? rules[r] : null;
    }

    private Sheet sheetAt(int s) {
        return s >= 0 && s < sheets.length ? sheets[s] : null;
    }

    /** One part of a fraction in lowest terms: part 0 above the line, 1 below it. */
    private static long lowest(long above, long below, int part) {
        long a = Math.abs(above);
        long b = below;
        for (int i = 0; i < 200 && b != 0; i++) {
            long left = a % b;
            a = b;
            b = left;
        }
        if (a == 0) {
            return part == 0 ? above : below;
        }
        return part == 0 ? above / a : below / a;
    }

    /** Paths, storms, the wall and what is behind it, and the law by which they harm, cost and grow. */
    private static final class Coast {
        static final int MOST_PATHS = 4, MOST_STORMS = 6;

        int years = 8;
        int wall = 20;
        int behind = 100;
        int broad;
        int pathCount;
        private final int[] weights = new int[MOST_PATHS];
        private final int[] bases = new int[MOST_PATHS];
        private final int[] rates = new int[MOST_PATHS];
        private final int[] bends = new int[MOST_PATHS];
        private final int[] fasters = new int[MOST_PATHS];
        int stormCount;
        private final int[] heights = new int[MOST_STORMS];
        private final int[] chances = new int[MOST_STORMS];
        Text law;
        int lawNumber;
        // Goes up with each change, so that plans know whether they still hold.
        int changes;

        void put(int what, int v) {
            switch (what) {
                case 0: years = v; break;
                case 1: wall = v; break;
                case 2: behind = v; break;
                default: broad = v;
            }
            changes++;
        }

        void putLaw(Text text, int number) {
            law = text;
            lawNumber = number;
            changes++;
        }

        boolean hasPath(int p) {
            return p >= 0 && p < pathCount && p < MOST_PATHS;
        }

        int addPath(int weight, int base, int rate, int later) {
            int p = pathCount;
            if (p < 0 || p >= MOST_PATHS) {
                return FULL;
            }
            weights[p] = weight;
            bases[p] = base;
            rates[p] = rate;
            bends[p] = later / 100;
            fasters[p] = later % 100;
            pathCount++;
            changes++;
            return p;
        }

        int putWeight(int p, int weight) {
            if (!hasPath(p)) {
                return NONE;
            }
            int was = weights[p];
            weights[p] = weight;
            changes++;
            return was;
        }

        /** The weights of some paths (bits) together. */
        int weightOf(int set) {
            int sum = 0;
            for (int p = 0; p < pathCount && p < MOST_PATHS; p++) {
                if ((set >> p & 1) != 0) {
                    sum += weights[p];
                }
            }
            return sum;
        }

        int weightOfAll() {
            return weightOf(-1);
        }

        int pathByLot(int lot) {
            int sum = 0;
            for (int p = 0; p < pathCount && p < MOST_PATHS; p++) {
                sum += weights[p];
                if (sum > lot) {
                    return p;
                }
            }
            return -1;
        }

        int addStorm(int height, int chance) {
            int s = stormCount;
            if (s < 0 || s >= MOST_STORMS) {
                return FULL;
            }
            heights[s] = height;
            chances[s] = chance;
            stormCount++;
            changes++;
            return s;
        }

        boolean hasStorm(int s) {
            return s >= 0 && s < stormCount && s < MOST_STORMS;
        }

        int stormsInAll() {
            int sum = 0;
            for (int s = 0; s < stormCount && s < MOST_STORMS; s++) {
                sum += chances[s];
            }
            return sum;
        }

        int stormByLot(int lot) {
            int sum = 0;
            for (int s = 0; s < stormCount && s < MOST_STORMS; s++) {
                sum += chances[s];
                if (sum > lot) {
                    return s;
                }
            }
            return -1;
        }

        int levelAt(int p, int y) {
            if (p < 0 || p >= MOST_PATHS) {
                return 0;
            }
            int level = bases[p] + rates[p] * y / 10;
            return y > bends[p] ? level + (y - bends[p]) * fasters[p] / 10 : level;
        }

        /** The paths (bits) that have such a level in a year. */
        int pathsAt(int y, int level) {
            int set = 0;
            for (int p = 0; p < pathCount && p < MOST_PATHS; p++) {
                if (levelAt(p, y) == level) {
                    set |= 1 << p;
                }
            }
            return set;
        }

        int floodsOver(int h, int level) {
            int sum = 0;
            for (int s = 0; s < stormCount && s < MOST_STORMS; s++) {
                if (level + heights[s] > h) {
                    sum += chances[s];
                }
            }
            return sum;
        }

        /** The least raising, 20 at most, by which floods over a wall are no more than so many. */
        int needAt(int h, int level, int most) {
            for (int up = 0; up < 20; up++) {
                if (floodsOver(h + up, level) <= most) {
                    return up;
                }
            }
            return 20;
        }

        long harmAt(int level, int h, int y, int rich) {
            long sum = 0;
            for (int s = 0; s < stormCount && s < MOST_STORMS; s++) {
                int over = level + heights[s] - h;
                if (over > 0 && law != null) {
                    sum += (long) chances[s] * law.harmBy(over, rich, h, level, y);
                }
            }
            return sum;
        }

        /** What one storm harms; -1, if it does not come over the wall. */
        int harmOfOne(int s, int level, int h, int y, int rich) {
            if (!hasStorm(s) || law == null) {
                return -1;
            }
            int over = level + heights[s] - h;
            return over > 0 ? law.harmBy(over, rich, h, level, y) : -1;
        }

        int costAt(int up, int h, int y, int rich, int isBroad) {
            return up == 0 || law == null ? 0 : law.costBy(up, h, y, rich, isBroad);
        }

        int grown(int rich, int y) {
            if (law == null) {
                return rich;
            }
            return Math.max(0, Math.min(MOST_BEHIND, rich + law.growthBy(rich, y)));
        }
    }

    /** A text that was read: its three parts, each as signs in the order in which they are worked off. */
    private static final class Text {
        static final int FIRST_NAME = 10000, NAMES = 6;
        static final int OR = 10010, AND = 10011, NOT = 10012, LESS = 10013, SAME = 10014;
        static final int PLUS = 10015, LESSEN = 10016, TIMES = 10017, NEGATE = 10018;

        private final int[] signs;
        private final int costFrom;
        private final int growFrom;
        private final int[] stack;
        private final int[] names = new int[NAMES];

        Text(int[] signs, int costFrom, int growFrom) {
            this.signs = signs;
            this.costFrom = costFrom;
            this.growFrom = growFrom;
            stack = new int[signs.length];
        }

        int harmBy(int over, int rich, int h, int level, int y) {
            names[0] = over;
            names[1] = rich;
            names[2] = h;
            names[3] = level;
            names[4] = y;
            names[5] = 0;
            return bounded(value(0, costFrom), 0, 9999);
        }

        int costBy(int up, int h, int y, int rich, int broad) {
            names[0] = broad;
            names[1] = rich;
            names[2] = h;
            names[3] = 0;
            names[4] = y;
            names[5] = up;
            return bounded(value(costFrom, growFrom), 0, 9999);
        }

        int growthBy(int rich, int y) {
            names[0] = 0;
            names[1] = rich;
            names[2] = 0;
            names[3] = 0;
            names[4] = y;
            names[5] = 0;
            return bounded(value(growFrom, signs.length), -999, 999);
        }

        private static int bounded(int v, int least, int most) {
            return v < least ? least : v > most ? most : v;
        }

        private int value(int from, int to) {
            int top = 0;
            for (int i = from; i < to && i >= 0 && i < signs.length; i++) {
                int sign = signs[i];
                int came = sign;
                if (sign >= OR) {
                    int taken = sign == NOT || sign == NEGATE ? 1 : 2;
                    top -= taken;
                    if (top < 0 || top + taken > stack.length) {
                        return 0;
                    }
                    int a = stack[top];
                    int b = stack[top + taken - 1];
                    switch (sign) {
                        case OR: came = a != 0 || b != 0 ? 1 : 0; break;
                        case AND: came = a != 0 && b != 0 ? 1 : 0; break;
                        case NOT: came = a == 0 ? 1 : 0; break;
                        case LESS: came = a < b ? 1 : 0; break;
                        case SAME: came = a == b ? 1 : 0; break;
                        case PLUS: came = a + b; break;
                        case LESSEN: came = a - b; break;
                        case TIMES: came = a * b; break;
                        default: came = -a;
                    }
                } else if (sign >= FIRST_NAME && sign < FIRST_NAME + NAMES) {
                    came = names[sign - FIRST_NAME];
                }
                if (top < 0 || top >= stack.length) {
                    return 0;
                }
                stack[top++] = came;
            }
            return top > 0 && stack.length > 0 ? stack[0] : 0;
        }
    }

    /** The tape, and how a text is read from it. */
    private static final class Reader {
        private static final int MOST_BYTES = 160, MOST_OPEN = 5, MOST_DIGITS = 4;
        // What a token is: a sign by its byte, a name by its number, or one of these.
        private static final int FIRST_NAME = 1000;
        private static final int HARM = 1006, COST = 1007, GROW = 1008, OR = 1009, AND = 1010, NOT = 1011;
        private static final int NUMBER = 2000, END = 2001, STRANGE = 2002;

        private final int[] bytes = new int[MOST_BYTES];
        int size;
        // Of the token that is looked at: where it begins, what it is, what lies behind it.
        int place;
        private int token;
        private int number;
        private int behind;
        private final int[] signs = new int[MOST_BYTES];
        private int signCount;

        void clear() {
            size = 0;
        }

        void load(String told) {
            clear();
            for (int i = 0; i < told.length(); i++) {
                add(told.charAt(i), 1);
            }
        }

        boolean add(long w, int n) {
            if (n < 0 || n > 8 || size < 0 || size + n > MOST_BYTES) {
                return false;
            }
            for (int i = n - 1; i >= 0; i--) {
                bytes[size++] = (int) (w >> 8 * i & 255);
            }
            return true;
        }

        /** The text that lies on the tape; null, if a token can't stand where it stands, which is at place then. */
        Text read() {
            behind = 0;
            signCount = 0;
            step();
            if (!stood(HARM) || !isOr(0) || !stood(';')) {
                return null;
            }
            int costFrom = signCount;
            if (!stood(COST) || !isOr(0) || !stood(';')) {
                return null;
            }
            int growFrom = signCount;
            if (!stood(GROW) || !isOr(0) || !stood(';') || token != END) {
                return null;
            }
            return new Text(Arrays.copyOf(signs, signCount), costFrom, growFrom);
        }

        // The ones below read what their name says, as far as it can stand; open is how many are open around it.

        private boolean isOr(int open) {
            if (!isAnd(open)) {
                return false;
            }
            for (int i = 0; i < MOST_BYTES && stood(OR); i++) {
                if (!isAnd(open)) {
                    return false;
                }
                put(Text.OR);
            }
            return true;
        }

        private boolean isAnd(int open) {
            if (!isNot(open)) {
                return false;
            }
            for (int i = 0; i < MOST_BYTES && stood(AND); i++) {
                if (!isNot(open)) {
                    return false;
                }
                put(Text.AND);
            }
            return true;
        }

        private boolean isNot(int open) {
            if (token == NOT) {
                if (open >= MOST_OPEN || !stood(NOT) || !isNot(open + 1)) {
                    return false;
                }
                put(Text.NOT);
                return true;
            }
            if (!isSum(open)) {
                return false;
            }
            if (token != '<' && token != '=') {
                return true;
            }
            int sign = token == '<' ? Text.LESS : Text.SAME;
            step();
            if (!isSum(open)) {
                return false;
            }
            put(sign);
            return true;
        }

        private boolean isSum(int open) {
            if (!isTerm(open)) {
                return false;
            }
            for (int i = 0; i < MOST_BYTES && (token == '+' || token == '-'); i++) {
                int sign = token == '+' ? Text.PLUS : Text.LESSEN;
                step();
                if (!isTerm(open)) {
                    return false;
                }
                put(sign);
            }
            return true;
        }

        private boolean isTerm(int open) {
            if (!isOne(open)) {
                return false;
            }
            for (int i = 0; i < MOST_BYTES && stood('*'); i++) {
                if (!isOne(open)) {
                    return false;
                }
                put(Text.TIMES);
            }
            return true;
        }

        private boolean isOne(int open) {
            if (token == NUMBER) {
                put(number);
                step();
                return true;
            }
            if (token >= FIRST_NAME && token < HARM) {
                put(Text.FIRST_NAME + token - FIRST_NAME);
                step();
                return true;
            }
            if (open >= MOST_OPEN) {
                return false;
            }
            if (stood('-')) {
                if (!isOne(open + 1)) {
                    return false;
                }
                put(Text.NEGATE);
                return true;
            }
            return stood('(') && isOr(open + 1) && stood(')');
        }

        private void put(int sign) {
            if (signCount >= 0 && signCount < signs.length) {
                signs[signCount++] = sign;
            }
        }

        /** Whether the token is such a one; it is stepped over then. */
        private boolean stood(int asked) {
            if (token != asked) {
                return false;
            }
            step();
            return true;
        }

        private void step() {
            int i = behind;
            while (i < size && (byteAt(i) == 32 || byteAt(i) == 10)) {
                i++;
            }
            place = i;
            if (i >= size) {
                token = END;
            } else if (isLetter(byteAt(i))) {
                i = behindWord(i);
                token = wordOf(place, i);
            } else if (isDigit(byteAt(i))) {
                i = behindNumber(i);
                token = i - place > MOST_DIGITS ? STRANGE : NUMBER;
            } else {
                token = isSign(byteAt(i)) ? byteAt(i) : STRANGE;
                i++;
            }
            behind = i;
        }

        private int behindWord(int from) {
            int i = from;
            while (i < size && isLetter(byteAt(i))) {
                i++;
            }
            return i;
        }

        private int behindNumber(int from) {
            number = 0;
            int i = from;
            while (i < size && isDigit(byteAt(i))) {
                number = number * 10 + byteAt(i) - '0';
                i++;
            }
            return i;
        }

        private int wordOf(int from, int to) {
            if (spells(from, to, "over")) {
                return FIRST_NAME;
            } else if (spells(from, to, "behind")) {
                return FIRST_NAME + 1;
            } else if (spells(from, to, "wall")) {
                return FIRST_NAME + 2;
            } else if (spells(from, to, "level")) {
                return FIRST_NAME + 3;
            } else if (spells(from, to, "year")) {
                return FIRST_NAME + 4;
            } else if (spells(from, to, "up")) {
                return FIRST_NAME + 5;
            } else if (spells(from, to, "harm")) {
                return HARM;
            } else if (spells(from, to, "cost")) {
                return COST;
            } else if (spells(from, to, "grow")) {
                return GROW;
            } else if (spells(from, to, "or")) {
                return OR;
            } else if (spells(from, to, "and")) {
                return AND;
            }
            return spells(from, to, "not") ? NOT : STRANGE;
        }

        private boolean spells(int from, int to, String word) {
            if (to - from != word.length()) {
                return false;
            }
            for (int i = 0; i < word.length(); i++) {
                if (byteAt(from + i) != word.charAt(i)) {
                    return false;
                }
            }
            return true;
        }

        private int byteAt(int i) {
            return i >= 0 && i < size && i < bytes.length ? bytes[i] : 0;
        }

        private static boolean isLetter(int b) {
            return b >= 'a' && b <= 'z';
        }

        private static boolean isDigit(int b) {
            return b >= '0' && b <= '9';
        }

        private static boolean isSign(int b) {
            switch (b) {
                case '(':
                case ')':
                case ';':
                case '+':
                case '-':
                case '*':
                case '<':
                case '=':
                    return true;
                default:
                    return false;
            }
        }
    }

    /** A row of numbers of a sort, or nothing. */
    private static final class Sheet {
        int sort = -1;
        int size;
        // As long as any row can be, so that a new row needs no new room.
        final int[] numbers = new int[40];

        boolean isMissing() {
            return sort == -1;
        }

        void become(int newSort, int newSize) {
            sort = newSort;
            size = Math.max(0, Math.min(newSize, numbers.length));
            Arrays.fill(numbers, 0);
        }

        /** Whether n places from i on, maybe none, lie within the row. */
        boolean reaches(int i, int n) {
            return i >= 0 && n >= 0 && i <= size - n && size <= numbers.length;
        }

        boolean put(int i, int v) {
            if (i < 0 || i >= size || i >= numbers.length) {
                return false;
            }
            numbers[i] = sort == 0 ? (byte) v : sort == 1 ? (short) v : v;
            return true;
        }

        int at(int i) {
            return i >= 0 && i < size && i < numbers.length ? numbers[i] : 0;
        }

        boolean holdsOnly(int most) {
            for (int i = 0; i < size; i++) {
                if (at(i) < 0 || at(i) > most) {
                    return false;
                }
            }
            return true;
        }

        /** The numbers of some places (bits) together. */
        long sumOf(int set) {
            long sum = 0;
            for (int i = 0; i < size && i < 31; i++) {
                if ((set >> i & 1) != 0) {
                    sum += at(i);
                }
            }
            return sum;
        }
    }

    /** A rule of a kind, by which the wall is raised or all is left. */
    private static final class Rule {
        static final int LAW = 1, STEP = 2, WAIT = 3, TOLD = 4, BACK = 5;

        final int kind;
        int more;
        final int step;
        final int near;
        private final int[] told = new int[MOST_YEARS];

        Rule(int kind, int more, int rest) {
            this.kind = kind;
            this.more = more;
            step = rest / 100;
            near = rest % 100;
        }

        void tell(Sheet row) {
            for (int y = 0; row != null && y < told.length; y++) {
                told[y] = row.at(y);
            }
        }

        int toldFor(int y) {
            return y >= 0 && y < told.length ? told[y] : 0;
        }

        /** Whether it is one of an asked kind: a back is a wait, a wait a step, and each one a rule. */
        boolean isOne(int asked) {
            switch (asked) {
                case 0: return true;
                case STEP: return kind == STEP || kind == WAIT || kind == BACK;
                case WAIT: return kind == WAIT || kind == BACK;
                default: return kind == asked;
            }
        }

        boolean leaves(int level, int h) {
            return kind == BACK && level >= h;
        }

        /** By how much it would raise a wall, were there no bound. */
        int raiseOf(Coast coast, int level, int h, int y) {
            switch (kind) {
                case LAW: return coast.needAt(h, level, more);
                case STEP: return stepIn(y);
                case WAIT:
                case BACK: return level + near >= h ? stepIn(y) : 0;
                case TOLD: return toldFor(y);
                default: return 0;
            }
        }

        private int stepIn(int y) {
            return more <= 0 || y % more == 0 ? step : 0;
        }
    }

    /** What came of a rule on a path, year by year. */
    private static final class Course {
        private final int[] walls = new int[MOST_YEARS];
        private final int[] raises = new int[MOST_YEARS];
        private final int[] behinds = new int[MOST_YEARS];
        private final boolean[] lefts = new boolean[MOST_YEARS];
        long paid;
        private long harmed;
        private int wall;
        private int behind;
        private boolean left;

        void follow(Coast coast, Rule rule, int p) {
            paid = 0;
            harmed = 0;
            wall = coast.wall;
            behind = coast.behind;
            left = false;
            for (int y = 0; y < coast.years && y < MOST_YEARS; y++) {
                int level = coast.levelAt(p, y);
                behinds[y] = behind;
                raises[y] = 0;
                if (!left && rule.leaves(level, wall)) {
                    paid += behind;
                    behind = 0;
                    left = true;
                }
                if (!left) {
                    raises[y] = Math.min(rule.raiseOf(coast, level, wall, y), HIGHEST_WALL - wall);
                    live(coast, level, y, raises[y]);
                }
                walls[y] = wall;
                lefts[y] = left;
            }
        }

        private void live(Coast coast, int level, int y, int up) {
            paid += coast.costAt(up, wall, y, behind, coast.broad);
            wall += up;
            harmed += coast.harmAt(level, wall, y, behind);
            behind = coast.grown(behind, y);
        }

        long sum() {
            return 1000 * paid + harmed;
        }

        int told(int y, int what) {
            if (y < 0 || y >= MOST_YEARS) {
                return 0;
            }
            switch (what) {
                case 0: return walls[y];
                case 1: return raises[y];
                case 2: return behinds[y];
                default: return lefts[y] ? 1 : 0;
            }
        }

        /** What one storm harms in a year; -1, if there is no flood. */
        int harmOfStorm(Coast coast, int p, int y, int storm) {
            if (y < 0 || y >= MOST_YEARS || lefts[y]) {
                return -1;
            }
            return coast.harmOfOne(storm, coast.levelAt(p, y), walls[y], y, behinds[y]);
        }
    }

    /** By how much the wall is raised in each year, and what that comes to. */
    private static final class Plan {
        private final int[] raises = new int[MOST_YEARS];
        long sum;
        // The coast's changes when it was made; it holds as long as there were no more.
        int madeAt = -1;

        int raiseIn(int y) {
            return y >= 0 && y < raises.length ? raises[y] : 0;
        }

        void put(int y, int up) {
            if (y >= 0 && y < raises.length) {
                raises[y] = up;
            }
        }

        int firstRaise(int years) {
            for (int y = 0; y < years; y++) {
                if (raiseIn(y) > 0) {
                    return y;
                }
            }
            return -1;
        }
    }

    /** Finds the plan that comes to least, from the last year back to the first. */
    private static final class Planner {
        private static final int STEEPEST = 3;
        private static final int REACH = STEEPEST * MOST_YEARS + 1;

        private final Coast coast;
        // Of all paths, and of each one.
        private final Plan[] plans = new Plan[Coast.MOST_PATHS + 1];
        private final Plan asked = new Plan();
        private final int[] behinds = new int[MOST_YEARS + 1];
        // Of each path by years and by how far the wall has been raised by their end; at which changes.
        private final long[][] harms = new long[Coast.MOST_PATHS][MOST_YEARS * REACH];
        private final int[] harmsMadeAt = new int[Coast.MOST_PATHS];
        private final long[] weighed = new long[REACH];
        // By years and by how far the wall has been raised: what is still to come, and the raising for that.
        private final long[][] least = new long[MOST_YEARS + 1][REACH];
        private final int[][] raises = new int[MOST_YEARS][REACH];
        private int idle;
        private int broad;
        private long scale;

        Planner(Coast coast) {
            this.coast = coast;
            for (int i = 0; i < plans.length; i++) {
                plans[i] = new Plan();
            }
            Arrays.fill(harmsMadeAt, -1);
        }

        /** The best plan on a path, of all paths for -1; in sum by weights then. */
        Plan bestOn(int p) {
            if (p < -1 || p + 1 >= plans.length || plans[p + 1] == null) {
                return asked;
            }
            Plan plan = plans[p + 1];
            if (plan.madeAt != coast.changes) {
                idle = 0;
                broad = coast.broad;
                solve(plan, p);
                plan.madeAt = coast.changes;
            }
            return plan;
        }

        /** What the best of all comes to, if nothing may be raised in the first years, be it broad or not. */
        long leastIf(int idleYears, int isBroad) {
            idle = idleYears;
            broad = isBroad;
            solve(asked, -1);
            return asked.sum;
        }

        private void solve(Plan plan, int p) {
            int years = Math.max(0, Math.min(coast.years, MOST_YEARS));
            scale = 1000L * (p < 0 ? coast.weightOfAll() : 1);
            behinds[0] = coast.behind;
            for (int y = 0; y < years; y++) {
                behinds[y + 1] = coast.grown(behinds[y], y);
            }
            for (int q = 0; q < coast.pathCount; q++) {
                if (p < 0 || q == p) {
                    fillHarms(q, years);
                }
            }
            Arrays.fill(least[years], 0);
            for (int y = years - 1; y >= 0; y--) {
                weighHarms(p, y);
                for (int d = 0; d <= furthest(y) && d < REACH; d++) {
                    choose(y, d);
                }
            }
            int d = 0;
            for (int y = 0; y < years && d < REACH; y++) {
                plan.put(y, raises[y][d]);
                d += raises[y][d];
            }
            plan.sum = least[0][0];
        }

        /** How far the wall can have been raised as a year begins. */
        private int furthest(int y) {
            return Math.min(STEEPEST * y, HIGHEST_WALL - coast.wall);
        }

        private void fillHarms(int p, int years) {
            if (p < 0 || p >= harms.length || harmsMadeAt[p] == coast.changes) {
                return;
            }
            for (int y = 0; y < years && y < MOST_YEARS; y++) {
                int level = coast.levelAt(p, y);
                for (int d = 0; d <= furthest(y + 1) && d < REACH; d++) {
                    harms[p][y * REACH + d] = coast.harmAt(level, coast.wall + d, y, behinds[y]);
                }
            }
            harmsMadeAt[p] = coast.changes;
        }

        /** What each wall that there can be in a year's end lets through, on the path or by weights. */
        private void weighHarms(int p, int y) {
            for (int d = 0; d <= furthest(y + 1) && d < REACH; d++) {
                weighed[d] = 0;
                for (int q = 0; q < coast.pathCount && q < harms.length; q++) {
                    if (p < 0 || q == p) {
                        long weight = p < 0 ? coast.weightOf(1 << q) : 1;
                        weighed[d] += weight * harms[q][y * REACH + d];
                    }
                }
            }
        }

        /** The least raising of those by which least is still to come. */
        private void choose(int y, int d) {
            int most = Math.min(y < idle ? 0 : STEEPEST, furthest(y + 1) - d);
            int raise = -1;
            long sum = 0;
            for (int up = 0; up <= most && d + up < REACH; up++) {
                long paid = scale * coast.costAt(up, coast.wall + d, y, behinds[y], broad);
                long now = paid + weighed[d + up] + least[y + 1][d + up];
                if (raise < 0 || now < sum) {
                    raise = up;
                    sum = now;
                }
            }
            raises[y][d] = Math.max(raise, 0);
            least[y][d] = sum;
        }
    }

    /** Towns on one bay, whose walls push the water to each other. */
    private static final class Bay {
        private static final int MOST_TOWNS = 3, MUCH_HIGHER = 5;

        private final Coast coast;
        private final int[] walls = new int[MOST_TOWNS];
        private final int[] behinds = new int[MOST_TOWNS];
        int townCount;
        int push = 1;
        // What is looked at: the sea's level in a year, and by how much some raise their walls.
        private int level;
        private int year;
        private int raise;

        Bay(Coast coast) {
            this.coast = coast;
        }

        int addTown(int h, int rich) {
            int t = townCount;
            if (t < 0 || t >= MOST_TOWNS) {
                return FULL;
            }
            walls[t] = h;
            behinds[t] = rich;
            townCount++;
            return t;
        }

        boolean hasTown(int t) {
            return t >= 0 && t < townCount && t < MOST_TOWNS;
        }

        /** All towns, as bits. */
        int allTowns() {
            return (1 << townCount) - 1;
        }

        void look(int p, int y, int up) {
            level = coast.levelAt(p, y);
            year = y;
            raise = up;
        }

        private static boolean isIn(int t, int set) {
            return (set >> t & 1) != 0;
        }

        private int wallThen(int t, int set) {
            return hasTown(t) ? walls[t] + (isIn(t, set) ? raise : 0) : 0;
        }

        long payOf(int t, int set) {
            if (!hasTown(t)) {
                return 0;
            }
            int own = wallThen(t, set);
            int water = level;
            for (int other = 0; other < townCount; other++) {
                if (wallThen(other, set) > own + MUCH_HIGHER) {
                    water += push;
                }
            }
            long harm = coast.harmAt(water, own, year, behinds[t]);
            if (!isIn(t, set)) {
                return harm;
            }
            return harm + 1000L * coast.costAt(raise, walls[t], year, behinds[t], coast.broad);
        }

        long payOfAll(int set) {
            long sum = 0;
            for (int t = 0; t < townCount; t++) {
                sum += payOf(t, set);
            }
            return sum;
        }

        /** Whether no town would pay less, did it alone choose otherwise. */
        boolean isRest(int set) {
            for (int t = 0; t < townCount; t++) {
                if (payOf(t, set ^ 1 << t) < payOf(t, set)) {
                    return false;
                }
            }
            return true;
        }

        /** What one wall for some towns costs. */
        int oneWall(int set, int most) {
            int up = 0;
            int lowest = HIGHEST_WALL;
            int rich = 0;
            for (int t = 0; t < townCount && t < MOST_TOWNS; t++) {
                if (isIn(t, set)) {
                    up = Math.max(up, coast.needAt(walls[t], level, most));
                    lowest = Math.min(lowest, walls[t]);
                    rich += behinds[t];
                }
            }
            return coast.costAt(up, lowest, year, Math.min(rich, MOST_BEHIND), coast.broad);
        }
    }

    /** What was kept, to be given back. */
    private static final class Image {
        boolean isThere;
        int lawNumber;
        private final int[] told = new int[4];
        private final int[] weights = new int[Coast.MOST_PATHS];
        private int pathCount;
        private int push;

        void keep(Coast coast, Bay bay) {
            isThere = true;
            lawNumber = coast.lawNumber;
            told[0] = coast.years;
            told[1] = coast.wall;
            told[2] = coast.behind;
            told[3] = coast.broad;
            pathCount = coast.pathCount;
            for (int p = 0; p < pathCount && p < weights.length; p++) {
                weights[p] = coast.weightOf(1 << p);
            }
            push = bay.push;
        }

        void giveBack(Coast coast, Bay bay) {
            for (int what = 0; what < told.length; what++) {
                coast.put(what, told[what]);
            }
            for (int p = 0; p < pathCount && p < weights.length; p++) {
                coast.putWeight(p, weights[p]);
            }
            bay.push = push;
        }
    }
}
