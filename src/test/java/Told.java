import java.math.BigInteger;
import java.util.ArrayList;
import java.util.HashMap;
import java.util.List;
import java.util.Map;

/**
 * The whole document told a second time, each call by itself and without care for time or room, to hold runs of calls
 * against. Its methods bear the names of the face's.
 */
final class Told {
    private static final int NONE = -1, BAD = -2, STATE = -3, FULL = -4;
    private static final long NO = -4611686018427387904L;

    private record Path(int[] weight, int base, int rate, int bend, int faster) {
    }

    private record Storm(int height, int many) {
    }

    private record Rule(int kind, int more, int step, int near, int[] told) {
    }

    private record Street(int height, int worth) {
    }

    private record Town(int wall, int behind) {
    }

    private record Law(SaidLaw.E harm, SaidLaw.E cost, SaidLaw.E grow) {
    }

    private record Sheet(int sort, int[] numbers) {
    }

    private record Kept(int[] told, List<Integer> weights, int push, int law) {
    }

    /** What came of a rule: of each year the wall, the raising, what is behind, whether all is left. */
    private record Came(List<int[]> years, long paid, long harmed) {
        long total() {
            return 1000 * paid + harmed;
        }
    }

    private record Best(long sum, List<Integer> raises) {
    }

    // YEARS, THE WALL, BEHIND, BROAD.
    private final int[] told = {8, 20, 100, 0};
    private final List<Path> paths = new ArrayList<>();
    private final List<Storm> storms = new ArrayList<>();
    private final List<Rule> rules = new ArrayList<>();
    private final List<Street> streets = new ArrayList<>();
    private final List<Town> towns = new ArrayList<>();
    private final List<Law> texts = new ArrayList<>();
    private int law;
    private int push = 1;
    private final StringBuilder tape = new StringBuilder();
    private final Sheet[] sheets = new Sheet[4];
    private Kept kept;
    // The bests since the last change; they are asked for so often that they would take too long.
    private final Map<String, Best> bests = new HashMap<>();

    Told() {
        texts.add(readLaw("harm over * behind ; cost 20 + up * wall ; grow year < 9 ;"));
    }

    // ---- terms

    private static boolean in(long v, long least, long most) {
        return least <= v && v <= most;
    }

    private static int bound(long v, int least, int most) {
        return (int) (v < least ? least : v > most ? most : v);
    }

    private boolean isPath(int p) {
        return in(p, 0, paths.size() - 1);
    }

    private boolean isYear(int y) {
        return in(y, 0, told[0] - 1);
    }

    private boolean isSheet(int s) {
        return in(s, 0, 3);
    }

    private static Law readLaw(String text) {
        SaidLaw said = new SaidLaw(text);
        return new Law(said.part("harm"), said.part("cost"), said.last("grow"));
    }

    private int levelOf(int p, int y) {
        Path path = paths.get(p);
        int level = path.base + path.rate * y / 10;
        if (y > path.bend) {
            level += (y - path.bend) * path.faster / 10;
        }
        return level;
    }

    private int floods(int level, int h) {
        int sum = 0;
        for (Storm s : storms) {
            sum += level + s.height > h ? s.many : 0;
        }
        return sum;
    }

    private long oneHarm(int over, int rich, int h, int level, int y) {
        return bound(texts.get(law).harm.of(new int[] {over, rich, h, level, y, 0}), 0, 9999);
    }

    private long harmOf(int level, int h, int y, int rich) {
        long sum = 0;
        for (Storm s : storms) {
            if (level + s.height > h) {
                sum += s.many * oneHarm(level + s.height - h, rich, h, level, y);
            }
        }
        return sum;
    }

    private int costOf(int up, int h, int y, int rich, int broad) {
        return up == 0 ? 0 : bound(texts.get(law).cost.of(new int[] {broad == 1 ? 1 : 0, rich, h, 0, y, up}), 0, 9999);
    }

    private int grow(int rich, int y) {
        int by = bound(texts.get(law).grow.of(new int[] {0, rich, 0, 0, y, 0}), -999, 999);
        return bound(rich + by, 0, 9999);
    }

    private int need(int level, int h, int most) {
        for (int up = 0; up < 20; up++) {
            if (floods(level, h + up) <= most) {
                return up;
            }
        }
        return 20;
    }

    private static int step(Rule rule, int y) {
        return y % (rule.more == 0 ? 1 : rule.more) == 0 ? rule.step : 0;
    }

    private int raising(Rule rule, int level, int h, int y) {
        switch (rule.kind) {
            case 1:
                return need(level, h, rule.more);
            case 2:
                return step(rule, y);
            case 3:
            case 5:
                return level + rule.near >= h ? step(rule, y) : 0;
            case 4:
                return rule.told[y];
            default:
                return 0;
        }
    }

    private Came follow(Rule rule, int p) {
        List<int[]> years = new ArrayList<>();
        long paid = 0;
        long harmed = 0;
        int h = told[1];
        int rich = told[2];
        int left = 0;
        for (int y = 0; y < told[0]; y++) {
            int level = levelOf(p, y);
            int asItBegins = rich;
            int up = 0;
            if (left == 0 && rule.kind == 5 && level >= h) {
                paid += rich;
                rich = 0;
                left = 1;
            } else if (left == 0) {
                up = Math.min(raising(rule, level, h, y), 99 - h);
                paid += costOf(up, h, y, rich, told[3]);
                h += up;
                harmed += harmOf(level, h, y, rich);
                rich = grow(rich, y);
            }
            years.add(new int[] {h, up, asItBegins, left});
        }
        return new Came(years, paid, harmed);
    }

    private long weights() {
        long sum = 0;
        for (Path path : paths) {
            sum += path.weight[0];
        }
        return sum;
    }

    private long sumOf(Rule rule) {
        long sum = 0;
        for (int p = 0; p < paths.size(); p++) {
            sum += paths.get(p).weight[0] * follow(rule, p).total();
        }
        return sum;
    }

    private static long fraction(long above, long below, int part) {
        BigInteger a = BigInteger.valueOf(above);
        BigInteger b = BigInteger.valueOf(below);
        BigInteger by = a.gcd(b);
        return (part == 0 ? a : b).divide(by).longValueExact();
    }

    private long inTheMean(long sum, int part) {
        return paths.isEmpty() ? fraction(0, 1, part) : fraction(sum, 1000 * weights(), part);
    }

    private Best best(int p, int idle, int broad) {
        return bests.computeIfAbsent(p + " " + idle + " " + broad, key -> findBest(p, idle, broad));
    }

    private Best findBest(int p, int idle, int broad) {
        Map<Integer, long[]> seen = new HashMap<>();
        long sum = least(p, idle, broad, 0, told[1], told[2], seen)[0];
        List<Integer> raises = new ArrayList<>();
        int h = told[1];
        for (int y = 0; y < told[0]; y++) {
            int up = (int) seen.get(y * 100 + h)[1];
            raises.add(up);
            h += up;
        }
        return new Best(sum, raises);
    }

    /** The least that can come from a year on with a wall, and the least raising by which it can. */
    private long[] least(int p, int idle, int broad, int y, int h, int rich, Map<Integer, long[]> seen) {
        if (y == told[0]) {
            return new long[] {0, 0};
        }
        if (seen.containsKey(y * 100 + h)) {
            return seen.get(y * 100 + h);
        }
        long[] least = null;
        for (int up = 0; up <= 3; up++) {
            if (h + up <= 99 && (up == 0 || y >= idle)) {
                long sum = least(p, idle, broad, y + 1, h + up, grow(rich, y), seen)[0];
                for (int q = 0; q < paths.size(); q++) {
                    long now = 1000L * costOf(up, h, y, rich, broad) + harmOf(levelOf(q, y), h + up, y, rich);
                    sum += p == -1 ? paths.get(q).weight[0] * now : p == q ? now : 0;
                }
                if (least == null || sum < least[0]) {
                    least = new long[] {sum, up};
                }
            }
        }
        seen.put(y * 100 + h, least);
        return least;
    }

    private long worstOf(Rule rule) {
        long worst = Long.MIN_VALUE;
        for (int p = 0; p < paths.size(); p++) {
            worst = Math.max(worst, follow(rule, p).total() - best(p, 0, told[3]).sum);
        }
        return worst;
    }

    /** The refusals of a row of so many numbers 0 .. most; 0, if there is none. */
    private int rowRefused(int s, int size, int most) {
        if (sheets[s] == null) {
            return -11;
        }
        if (sheets[s].numbers.length != size) {
            return BAD;
        }
        for (int v : sheets[s].numbers) {
            if (!in(v, 0, most)) {
                return BAD;
            }
        }
        return 0;
    }

    private long changed(long answer) {
        bests.clear();
        return answer;
    }

    // ---- the coast

    long set(int what, int v) {
        if (!in(what, 0, 3)) {
            return NONE;
        }
        int[] most = {16, 60, 999, 1};
        if (!in(v, what == 0 ? 1 : 0, most[what])) {
            return BAD;
        }
        int was = told[what];
        told[what] = v;
        return changed(was);
    }

    long count(int what) {
        int[] all = {told[0], told[1], told[2], told[3], paths.size(), storms.size(), rules.size(), streets.size(),
            towns.size(), texts.size(), law, tape.length()};
        return in(what, 0, 11) ? all[what] : BAD;
    }

    long path(int w, int from, int r, int later) {
        if (!in(w, 1, 99) || !in(from, 0, 30) || !in(r, 0, 40) || !in(later, 0, 1540) || later % 100 > 40) {
            return BAD;
        }
        if (paths.size() == 4) {
            return FULL;
        }
        paths.add(new Path(new int[] {w}, from, r, later / 100, later % 100));
        return changed(paths.size() - 1);
    }

    long weigh(int p, int w) {
        if (!isPath(p)) {
            return NONE;
        }
        if (!in(w, 1, 99)) {
            return BAD;
        }
        int was = paths.get(p).weight[0];
        paths.get(p).weight[0] = w;
        return changed(was);
    }

    long storm(int h, int c) {
        if (!in(h, 0, 40) || !in(c, 1, 1000)) {
            return BAD;
        }
        if (floods(1000, 0) + c > 1000) {
            return STATE;
        }
        if (storms.size() == 6) {
            return FULL;
        }
        storms.add(new Storm(h, c));
        return changed(storms.size() - 1);
    }

    long level(int p, int y) {
        return !isPath(p) ? -5 : !in(y, 0, 15) ? -7 : levelOf(p, y);
    }

    long flood(int p, int y, int h) {
        return !isPath(p) ? -5 : !in(y, 0, 15) || !in(h, 0, 99) ? -7 : floods(levelOf(p, y), h);
    }

    long harm(int p, int y, int h, int rich) {
        boolean is = isPath(p) && in(y, 0, 15) && in(h, 0, 99) && in(rich, 0, 9999);
        return is ? harmOf(levelOf(p, y), h, y, rich) : NO;
    }

    long cost(int up, int h, int y, int rich) {
        boolean is = in(up, 0, 99) && in(h, 0, 99) && in(y, 0, 15) && in(rich, 0, 9999);
        return is ? costOf(up, h, y, rich, told[3]) : BAD;
    }

    long behindThen(int y) {
        if (!in(y, 0, 16)) {
            return BAD;
        }
        int rich = told[2];
        for (int i = 0; i < y; i++) {
            rich = grow(rich, i);
        }
        return rich;
    }

    long seen(int y, int l) {
        if (!in(y, 0, 15)) {
            return BAD;
        }
        int bits = 0;
        for (int p = 0; p < paths.size(); p++) {
            bits += levelOf(p, y) == l ? 1 << p : 0;
        }
        return bits;
    }

    long think(int p, int y, int l, int part) {
        if (!isPath(p) || !in(y, 0, 15) || !in(part, 0, 1)) {
            return NO;
        }
        long all = 0;
        long own = 0;
        for (int q = 0; q < paths.size(); q++) {
            if (levelOf(q, y) == l) {
                all += paths.get(q).weight[0];
                own += p == q ? paths.get(q).weight[0] : 0;
            }
        }
        return all == 0 ? fraction(0, 1, part) : fraction(own, all, part);
    }

    // ---- rules, the law

    long rule(int kind, int more, int rest, int s) {
        if (!in(kind, 0, 5) || !in(more, 0, 1000) || !in(rest, 0, 920) || rest % 100 > 20) {
            return BAD;
        }
        if (kind == 4 && !isSheet(s)) {
            return BAD;
        }
        int refused = kind == 4 ? rowRefused(s, 16, 20) : 0;
        if (refused != 0) {
            return refused;
        }
        if (rules.size() == 8) {
            return FULL;
        }
        rules.add(new Rule(kind, more, rest / 100, rest % 100, kind == 4 ? sheets[s].numbers.clone() : new int[16]));
        return rules.size() - 1;
    }

    long ruleTold(int r, int what) {
        if (!in(r, 0, rules.size() - 1)) {
            return -5;
        }
        if (!in(what, 0, 19)) {
            return -7;
        }
        Rule rule = rules.get(r);
        int[] head = {rule.kind, rule.more, rule.step, rule.near};
        return what < 4 ? head[what] : rule.told[what - 4];
    }

    long feed(long w, int n) {
        if (!in(n, 1, 8)) {
            return BAD;
        }
        if (tape.length() + n > 160) {
            return FULL;
        }
        for (int i = n; i > 0; i--) {
            tape.append((char) (w >>> (i - 1) * 8 & 0xff));
        }
        return tape.length();
    }

    long text() {
        if (texts.size() == 6) {
            return FULL;
        }
        String all = tape.toString();
        tape.setLength(0);
        try {
            texts.add(readLaw(all));
            return texts.size() - 1;
        } catch (SaidLaw.Fault fault) {
            return -100 - fault.place;
        }
    }

    long force(int t) {
        if (!in(t, 0, texts.size() - 1)) {
            return BAD;
        }
        int was = law;
        law = t;
        return changed(was);
    }

    // ---- what rules come to

    private boolean isRule(int r) {
        return in(r, 0, rules.size() - 1);
    }

    long total(int r, int p) {
        return isRule(r) && isPath(p) ? follow(rules.get(r), p).total() : NO;
    }

    long spent(int r, int p) {
        return isRule(r) && isPath(p) ? follow(rules.get(r), p).paid : NO;
    }

    long mean(int r, int part) {
        return isRule(r) && in(part, 0, 1) ? inTheMean(sumOf(rules.get(r)), part) : NO;
    }

    long row(int r, int p, int y, int what) {
        if (!isRule(r) || !isPath(p)) {
            return -5;
        }
        return isYear(y) && in(what, 0, 3) ? follow(rules.get(r), p).years.get(y)[what] : -7;
    }

    long judge(int s, int m) {
        if (!isSheet(s) || !in(m, 0, 1000)) {
            return BAD;
        }
        int refused = rowRefused(s, told[0], 20);
        if (refused != 0) {
            return refused;
        }
        int h = told[1];
        for (int y = 0; y < told[0]; y++) {
            h = Math.min(99, h + sheets[s].numbers[y]);
            for (int p = 0; p < paths.size(); p++) {
                if (floods(levelOf(p, y), h) > m) {
                    return y;
                }
            }
        }
        return -1;
    }

    long drawn(int r, int seed, int what) {
        if (!isRule(r) || !in(seed, 0, 99999) || !in(what, 0, 1)) {
            return NO;
        }
        if (paths.isEmpty()) {
            return 0;
        }
        long lot = (seed + 1L) * 48271 % 2147483647;
        int p = 0;
        for (long above = paths.get(0).weight[0]; above <= lot % weights(); above += paths.get(p).weight[0]) {
            p++;
        }
        Came came = follow(rules.get(r), p);
        long floods = 0;
        long harms = 0;
        for (int y = 0; y < told[0]; y++) {
            lot = lot * 48271 % 2147483647;
            int[] year = came.years.get(y);
            long rest = lot % 1000;
            for (int s = 0; s < storms.size() && rest >= 0; s++) {
                int over = levelOf(p, y) + storms.get(s).height - year[0];
                boolean comes = rest < storms.get(s).many;
                rest = comes ? -1 : rest - storms.get(s).many;
                if (comes && over > 0 && year[3] == 0) {
                    floods++;
                    harms += oneHarm(over, year[2], year[0], levelOf(p, y), y);
                }
            }
        }
        return what == 0 ? floods : harms;
    }

    // ---- the best

    long best(int p, int part) {
        if (p != -1 && !isPath(p) || !in(part, 0, 1)) {
            return NO;
        }
        long sum = best(p, 0, told[3]).sum;
        return p == -1 ? inTheMean(sum, part) : fraction(sum, 1000, part);
    }

    long planned(int p, int y) {
        if (!isPath(p) && (p != -1 || paths.isEmpty())) {
            return -5;
        }
        return isYear(y) ? best(p, 0, told[3]).raises.get(y) : -7;
    }

    long know(int part) {
        long sum = best(-1, 0, told[3]).sum;
        for (int p = 0; p < paths.size(); p++) {
            sum -= paths.get(p).weight[0] * best(p, 0, told[3]).sum;
        }
        return in(part, 0, 1) ? inTheMean(sum, part) : NO;
    }

    long waits(int n, int part) {
        if (!in(n, 0, 16) || !in(part, 0, 1)) {
            return NO;
        }
        return inTheMean(best(-1, n, told[3]).sum - best(-1, 0, told[3]).sum, part);
    }

    long broadWorth(int part) {
        return in(part, 0, 1) ? inTheMean(best(-1, 0, 0).sum - best(-1, 0, 1).sum, part) : NO;
    }

    long decided() {
        int last = -1;
        for (int p = 0; p < paths.size(); p++) {
            List<Integer> raises = best(p, 0, told[3]).raises;
            int first = 0;
            while (first < raises.size() && raises.get(first) == 0) {
                first++;
            }
            if (first == raises.size()) {
                return -1;
            }
            last = Math.max(last, first);
        }
        return last;
    }

    long regret(int r, int p) {
        return isRule(r) && isPath(p) ? follow(rules.get(r), p).total() - best(p, 0, told[3]).sum : NO;
    }

    long worst(int r) {
        return isRule(r) && !paths.isEmpty() ? worstOf(rules.get(r)) : NO;
    }

    long sure(int what) {
        if (!in(what, 0, 1)) {
            return BAD;
        }
        int surest = -1;
        for (int r = rules.size() - 1; r >= 0; r--) {
            if (surest == -1 || by(what, r) <= by(what, surest)) {
                surest = r;
            }
        }
        return surest;
    }

    private long by(int what, int r) {
        return paths.isEmpty() ? 0 : what == 0 ? worstOf(rules.get(r)) : sumOf(rules.get(r));
    }

    private static Rule lawOf(int m) {
        return new Rule(1, m, 0, 0, null);
    }

    long thousand(int m, int part) {
        return in(m, 0, 1000) && in(part, 0, 1) ? inTheMean(sumOf(lawOf(m)), part) : NO;
    }

    long price(int most) {
        if (!in(most, 0, 999999)) {
            return BAD;
        }
        for (int m = 0; m <= 1000; m += 50) {
            if (sumOf(lawOf(m)) <= most * 1000L * weights()) {
                return m;
            }
        }
        return -1;
    }

    // ---- streets, towns

    long street(int h, int v) {
        if (!in(h, 0, 60) || !in(v, 0, 999)) {
            return BAD;
        }
        if (streets.size() == 8) {
            return FULL;
        }
        streets.add(new Street(h, v));
        return streets.size() - 1;
    }

    long when(int t, int p, int m) {
        if (!in(t, 0, streets.size() - 1) || !isPath(p)) {
            return -5;
        }
        return in(m, 0, 1000) ? leftIn(t, p, m) : -7;
    }

    private int leftIn(int t, int p, int m) {
        for (int y = 0; y < told[0]; y++) {
            if (floods(levelOf(p, y), streets.get(t).height) > m) {
                return y;
            }
        }
        return -1;
    }

    long away(int p, int y, int m, int what) {
        if (!isPath(p)) {
            return -5;
        }
        if (!isYear(y) || !in(m, 0, 1000) || !in(what, 0, 1)) {
            return -7;
        }
        int bits = 0;
        int worth = 0;
        for (int t = 0; t < streets.size(); t++) {
            if (in(leftIn(t, p, m), 0, y)) {
                bits += 1 << t;
            } else {
                worth += streets.get(t).worth;
            }
        }
        return what == 0 ? bits : worth;
    }

    long town(int h, int v) {
        if (!in(h, 0, 60) || !in(v, 0, 999)) {
            return BAD;
        }
        if (towns.size() == 3) {
            return FULL;
        }
        towns.add(new Town(h, v));
        return towns.size() - 1;
    }

    long push(int v) {
        int was = push;
        push = in(v, 0, 9) ? v : push;
        return in(v, 0, 9) ? was : BAD;
    }

    private int sets() {
        return 1 << towns.size();
    }

    private static boolean has(int set, int t) {
        return (set & 1 << t) != 0;
    }

    private int wallThen(int t, int up, int set) {
        return towns.get(t).wall + (has(set, t) ? up : 0);
    }

    private long paysOf(int t, int p, int y, int up, int set) {
        int own = wallThen(t, up, set);
        int water = levelOf(p, y);
        for (int other = 0; other < towns.size(); other++) {
            water += other != t && wallThen(other, up, set) - own > 5 ? push : 0;
        }
        Town town = towns.get(t);
        long raising = has(set, t) ? 1000L * costOf(up, town.wall, y, town.behind, told[3]) : 0;
        return harmOf(water, own, y, town.behind) + raising;
    }

    private boolean isRaising(int p, int y, int up) {
        return isPath(p) && isYear(y) && in(up, 1, 30);
    }

    long pays(int t, int p, int y, int up, int set) {
        boolean is = in(t, 0, towns.size() - 1) && isRaising(p, y, up) && in(set, 0, sets() - 1);
        return is ? paysOf(t, p, y, up, set) : NO;
    }

    long rests(int p, int y, int up) {
        if (!isRaising(p, y, up)) {
            return BAD;
        }
        int bits = 0;
        for (int set = 0; set < sets(); set++) {
            boolean rests = true;
            for (int t = 0; t < towns.size(); t++) {
                int otherwise = has(set, t) ? set - (1 << t) : set + (1 << t);
                rests = rests && paysOf(t, p, y, up, otherwise) >= paysOf(t, p, y, up, set);
            }
            bits += rests ? 1 << set : 0;
        }
        return bits;
    }

    long together(int p, int y, int up) {
        if (!isRaising(p, y, up)) {
            return BAD;
        }
        int choice = 0;
        long least = Long.MAX_VALUE;
        for (int set = 0; set < sets(); set++) {
            long sum = 0;
            for (int t = 0; t < towns.size(); t++) {
                sum += paysOf(t, p, y, up, set);
            }
            choice = sum < least ? set : choice;
            least = Math.min(sum, least);
        }
        return choice;
    }

    private int oneWall(int set, int p, int y, int m) {
        int need = 0;
        int lowest = 1000;
        int behind = 0;
        for (int t = 0; t < towns.size(); t++) {
            if (has(set, t)) {
                need = Math.max(need, need(levelOf(p, y), towns.get(t).wall, m));
                lowest = Math.min(lowest, towns.get(t).wall);
                behind += towns.get(t).behind;
            }
        }
        return costOf(need, lowest, y, Math.min(9999, behind), told[3]);
    }

    long joint(int set, int p, int y, int m) {
        boolean is = in(set, 1, sets() - 1) && isPath(p) && isYear(y) && in(m, 0, 1000);
        return is ? oneWall(set, p, y, m) : BAD;
    }

    long join(int s, int p, int y, int m) {
        if (!isSheet(s) || !isPath(p) || !isYear(y) || !in(m, 0, 1000)) {
            return BAD;
        }
        int refused = rowRefused(s, towns.size(), 99999);
        if (refused != 0) {
            return refused;
        }
        int all = sets() - 1;
        for (int set = 1; set <= all; set++) {
            if (parts(s, set) > oneWall(set, p, y, m)) {
                return set;
            }
        }
        return parts(s, all) < oneWall(all, p, y, m) ? all : -1;
    }

    private long parts(int s, int set) {
        long sum = 0;
        for (int t = 0; t < towns.size(); t++) {
            sum += has(set, t) ? sheets[s].numbers[t] : 0;
        }
        return sum;
    }

    long image() {
        List<Integer> weights = new ArrayList<>();
        for (Path path : paths) {
            weights.add(path.weight[0]);
        }
        kept = new Kept(told.clone(), weights, push, law);
        return paths.size();
    }

    long back() {
        if (kept == null) {
            return STATE;
        }
        for (int what = 0; what < 4; what++) {
            told[what] = kept.told[what];
        }
        for (int p = 0; p < kept.weights.size(); p++) {
            paths.get(p).weight[0] = kept.weights.get(p);
        }
        push = kept.push;
        law = kept.law;
        return changed(paths.size());
    }

    // ---- the host

    long sheet(int s, int sort, int n) {
        if (!isSheet(s) || !in(sort, -1, 2) || sort != -1 && n > 40) {
            return BAD;
        }
        if (sort != -1 && n < 0) {
            return -14;
        }
        sheets[s] = sort == -1 ? null : new Sheet(sort, new int[n]);
        return 1;
    }

    long cell(int s, int i, int v) {
        if (!isSheet(s)) {
            return BAD;
        }
        if (sheets[s] == null) {
            return -11;
        }
        int[] numbers = sheets[s].numbers;
        if (!in(i, 0, numbers.length - 1)) {
            return -12;
        }
        int bits = 8 << sheets[s].sort;
        numbers[i] = v << 32 - bits >> 32 - bits;
        return 1;
    }

    long copy(int s, int i, int other, int j, int n) {
        if (!isSheet(s) || !isSheet(other)) {
            return BAD;
        }
        if (sheets[s] == null || sheets[other] == null) {
            return -11;
        }
        if (sheets[s].sort != sheets[other].sort) {
            return -13;
        }
        int[] from = sheets[s].numbers.clone();
        int[] to = sheets[other].numbers;
        if (n < 0 || i < 0 || j < 0 || (long) i + n > from.length || (long) j + n > to.length) {
            return -12;
        }
        for (int k = 0; k < n; k++) {
            to[j + k] = from[i + k];
        }
        return n;
    }

    long stormsBy(int s, int sort, int at, int n) {
        if (!isSheet(s) || !in(sort, 0, 2) || !in(n, 0, 6)) {
            return BAD;
        }
        if (sheets[s] == null) {
            return -11;
        }
        if (sheets[s].sort != sort) {
            return -13;
        }
        int[] numbers = sheets[s].numbers;
        int came = 0;
        for (int k = 0; k < n; k++) {
            long place = at + 2L * k;
            if (!in(place, 0, numbers.length - 2)) {
                return -12;
            }
            came += storm(numbers[(int) place], numbers[(int) place + 1]) >= 0 ? 1 : 0;
        }
        return came;
    }

    long taken(int i, int kind) {
        if (!in(kind, 0, 6)) {
            return BAD;
        }
        if (!in(i, 0, 15)) {
            return -12;
        }
        if (i >= (i < 8 ? streets.size() : 8 + rules.size())) {
            return -11;
        }
        if (i < 8) {
            return kind == 6 ? streets.get(i).worth : -13;
        }
        // A RULE is one of these KINDS: a LAW, a STEP, a TOLD are RULES, a WAIT is a STEP, a BACK is a WAIT.
        int[][] are = {{0}, {0, 1}, {0, 2}, {0, 2, 3}, {0, 4}, {0, 2, 3, 5}};
        for (int one : are[rules.get(i - 8).kind]) {
            if (one == kind) {
                return i - 8;
            }
        }
        return -13;
    }
}
