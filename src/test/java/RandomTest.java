import java.math.BigInteger;
import java.util.ArrayList;
import java.util.List;
import java.util.Random;

/**
 * Coasts by numbers drawn (the seeds are told, so that each run is the same), held against the model. As an object is
 * used for 512 calls at most, what makes the coast is kept, and another object made by it ahead of each row of questions.
 */
public final class RandomTest {
    private static final Due due = new Due("RandomTest");

    private final Random random;
    private HowHigh x = new HowHigh();
    private final List<Twins.Call> made = new ArrayList<>();
    private final Model model = new Model();

    private RandomTest(long seed) {
        random = new Random(seed);
    }

    public static void main(String[] args) {
        for (int seed = 0; seed < 300; seed++) {
            RandomTest one = new RandomTest(seed);
            one.makeCoast(5);
            one.askAll();
            one.change();
            one.change();
            one.askAll();
        }
        for (int seed = 0; seed < 8; seed++) {
            RandomTest one = new RandomTest(-1 - seed);
            one.makeCoast(8);
            one.askBest();
        }
        due.end();
    }

    /** What makes the coast; it is made alike from then on. */
    private long make(Twins.Call call) {
        made.add(call);
        return call.of(x);
    }

    private void another() {
        x = new HowHigh();
        for (Twins.Call call : made) {
            call.of(x);
        }
    }

    private int upTo(int most) {
        return random.nextInt(most + 1);
    }

    private void makeCoast(int mostYears) {
        change(mostYears);
        for (int i = upTo(4); i > 0; i--) {
            int[] p = {1 + upTo(98), upTo(30), upTo(40), upTo(15), upTo(40)};
            int[] told = p.clone();
            due.is("path", make(o -> o.path(told[0], told[1], told[2], told[3] * 100 + told[4])), model.paths.size());
            model.paths.add(p);
        }
        for (int i = upTo(6); i > 0; i--) {
            int[] s = {upTo(40), 1 + upTo(160)};
            due.is("storm", make(o -> o.storm(s[0], s[1])), model.storms.size());
            model.storms.add(s);
        }
        for (int i = upTo(8); i > 0; i--) {
            makeRule();
        }
        for (int i = upTo(8); i > 0; i--) {
            int[] t = {upTo(60), upTo(999)};
            due.is("street", make(o -> o.street(t[0], t[1])), model.streets.size());
            model.streets.add(t);
        }
        for (int i = upTo(3); i > 0; i--) {
            int[] t = {upTo(60), upTo(999)};
            due.is("town", make(o -> o.town(t[0], t[1])), model.towns.size());
            model.towns.add(t);
        }
        makeLaw();
    }

    private void makeRule() {
        int kind = upTo(5);
        int more = random.nextBoolean() ? upTo(4) : upTo(1000);
        int[] rule = {kind, more, upTo(9), upTo(20)};
        int[] tells = new int[16];
        int sort = upTo(2);
        make(o -> o.sheet(1, sort, 16));
        for (int y = 0; y < 16 && kind == 4; y++) {
            int at = y;
            tells[y] = upTo(20);
            make(o -> o.cell(1, at, tells[at]));
        }
        due.is("rule", make(o -> o.rule(kind, more, rule[2] * 100 + rule[3], 1)), model.rules.size());
        model.rules.add(rule);
        model.told.add(tells);
    }

    private void makeLaw() {
        boolean plain = upTo(3) != 0;
        SaidPart[] parts = new SaidPart[3];
        for (int i = 0; i < 3; i++) {
            parts[i] = plain ? SaidPart.plain(random, i) : SaidPart.any(random, 0, 3);
        }
        String all = "harm " + parts[0].text() + ";cost " + parts[1].text() + " ; grow " + parts[2].text() + ";";
        if (all.length() > 160 || x.count(9) == 6) {
            return;
        }
        int t = x.count(9);
        for (int i = 0; i < all.length(); i += 8) {
            int n = Math.min(8, all.length() - i);
            long w = 0;
            for (int k = 0; k < n; k++) {
                w = w << 8 | all.charAt(i + k);
            }
            long fed = w;
            make(o -> o.feed(fed, n));
        }
        due.is("text " + all, make(HowHigh::text), t);
        make(o -> o.force(t));
        model.harm = parts[0].part();
        model.cost = parts[1].part();
        model.grow = parts[2].part();
    }

    private void change(int mostYears) {
        model.years = 1 + upTo(mostYears - 1);
        model.wall = upTo(60);
        model.behind = upTo(999);
        model.broad = upTo(1);
        int[] now = {model.years, model.wall, model.behind, model.broad};
        for (int i = 0; i < 4; i++) {
            int what = i;
            make(o -> o.set(what, now[what]));
        }
    }

    /** Some of all that can change is changed, behind a question for which plans are made that may not stay then. */
    private void change() {
        for (int p = -1; p < model.paths.size(); p++) {
            int q = p;
            make(o -> o.best(q, 0));
        }
        switch (upTo(3)) {
            case 0 -> change(5);
            case 1 -> changeOne();
            case 2 -> makeLaw();
            default -> changePaths();
        }
        int push = upTo(9);
        due.is("push", make(o -> o.push(push)), model.push);
        model.push = push;
    }

    private void changeOne() {
        int what = upTo(3);
        int[] most = {4, 60, 999, 1};
        int now = upTo(most[what]) + (what == 0 ? 1 : 0);
        make(o -> o.set(what, now));
        switch (what) {
            case 0 -> model.years = now;
            case 1 -> model.wall = now;
            case 2 -> model.behind = now;
            default -> model.broad = now;
        }
    }

    private void changePaths() {
        for (int p = 0; p < model.paths.size(); p++) {
            int[] path = model.paths.get(p);
            int weight = 1 + upTo(98);
            int q = p;
            due.is("weigh", make(o -> o.weigh(q, weight)), path[0]);
            path[0] = weight;
        }
    }

    private void askAll() {
        for (int p = 0; p < model.paths.size(); p++) {
            another();
            askPath(p);
            another();
            askBay(p);
            another();
            for (int t = 0; t < model.streets.size(); t++) {
                int m = upTo(1) * upTo(1000);
                due.is("when", x.when(t, p, m), model.when(t, p, m));
            }
            askAway(p);
        }
        for (int y = 0; y <= 16; y++) {
            due.is("behindThen", x.behindThen(y), model.behindThen(y));
        }
        for (int i = 0; i < 10; i++) {
            int[] a = {upTo(99), upTo(99), upTo(15), upTo(9999)};
            due.is("cost", x.cost(a[0], a[1], a[2], a[3]), model.cost(a[0], a[1], a[2], a[3], model.broad));
        }
        for (int r = 0; r < model.rules.size(); r++) {
            another();
            askRule(r);
        }
        another();
        askBest();
        another();
        askSure();
        askLaws();
        judge();
    }

    private void askPath(int p) {
        for (int y = 0; y < 16; y++) {
            int level = model.level(p, y);
            due.is("level", x.level(p, y), level);
            int h = upTo(99);
            int rich = upTo(9999);
            due.is("flood", x.flood(p, y, h), model.floods(level, h));
            due.is("harm", x.harm(p, y, h, rich), model.harm(level, h, y, rich));
            long like = 0;
            int seen = 0;
            for (int q = 0; q < model.paths.size(); q++) {
                if (model.level(q, y) == level) {
                    like += model.paths.get(q)[0];
                    seen |= 1 << q;
                }
            }
            due.is("seen", x.seen(y, level), seen);
            fraction("think", x.think(p, y, level, 0), x.think(p, y, level, 1), model.paths.get(p)[0], like);
        }
    }

    private void fraction(String call, long above, long below, long wantAbove, long wantBelow) {
        BigInteger a = BigInteger.valueOf(wantAbove);
        BigInteger b = BigInteger.valueOf(wantBelow);
        BigInteger by = a.gcd(b);
        due.is(call + " above", above, a.divide(by).longValue());
        due.is(call + " below", below, b.divide(by).longValue());
    }

    private void mean(String call, long above, long below, long sum) {
        boolean none = model.paths.isEmpty();
        fraction(call, above, below, none ? 0 : sum, none ? 1 : 1000 * model.weights());
    }

    private void askRule(int r) {
        for (int p = 0; p < model.paths.size(); p++) {
            Model.Came came = model.follow(model.rules.get(r), model.told.get(r), p);
            due.is("total", x.total(r, p), came.total());
            due.is("spent", x.spent(r, p), came.paid);
            for (int y = 0; y < model.years; y++) {
                for (int what = 0; what < 4; what++) {
                    due.is("row", x.row(r, p, y, what), came.rows[y][what]);
                }
            }
        }
        mean("mean", x.mean(r, 0), x.mean(r, 1), model.weighed(model.rules.get(r), model.told.get(r)));
        for (int i = 0; i < 5; i++) {
            int seed = upTo(99999);
            long[] want = model.paths.isEmpty() ? new long[2] : model.drawn(r, seed);
            due.is("drawn floods", x.drawn(r, seed, 0), want[0]);
            due.is("drawn harms", x.drawn(r, seed, 1), want[1]);
        }
    }

    private void askBest() {
        long[] all = model.best(-1, 0, model.broad);
        mean("best", x.best(-1, 0), x.best(-1, 1), all[model.years]);
        long known = 0;
        int decided = model.paths.isEmpty() ? -1 : 0;
        for (int p = 0; p < model.paths.size(); p++) {
            long[] one = model.best(p, 0, model.broad);
            fraction("best on path", x.best(p, 0), x.best(p, 1), one[model.years], 1000);
            known += model.paths.get(p)[0] * one[model.years];
            int first = 99;
            for (int y = model.years - 1; y >= 0; y--) {
                due.is("planned", x.planned(p, y), one[y]);
                due.is("planned for all", x.planned(-1, y), all[y]);
                first = one[y] > 0 ? y : first;
            }
            decided = first == 99 || decided < 0 ? -1 : Math.max(decided, first);
        }
        due.is("decided", x.decided(), decided);
        mean("know", x.know(0), x.know(1), all[model.years] - known);
        int n = upTo(model.years);
        mean("waits", x.waits(n, 0), x.waits(n, 1), model.best(-1, n, model.broad)[model.years] - all[model.years]);
        mean("broadWorth", x.broadWorth(0), x.broadWorth(1),
            model.best(-1, 0, 0)[model.years] - model.best(-1, 0, 1)[model.years]);
    }

    private void askSure() {
        int[] surest = {-1, -1};
        long[] least = new long[2];
        for (int r = 0; r < model.rules.size(); r++) {
            long worst = HowHigh.NO;
            for (int p = 0; p < model.paths.size(); p++) {
                long regret = model.total(r, p) - model.best(p, 0, model.broad)[model.years];
                due.is("regret", x.regret(r, p), regret);
                worst = Math.max(worst, regret);
            }
            due.is("worst", x.worst(r), worst);
            long[] now = {worst, model.weighed(model.rules.get(r), model.told.get(r))};
            for (int what = 0; what < 2; what++) {
                if (surest[what] < 0 || now[what] < least[what]) {
                    surest[what] = r;
                    least[what] = now[what];
                }
            }
        }
        due.is("sure by worst", x.sure(0), surest[0]);
        due.is("sure by mean", x.sure(1), surest[1]);
    }

    private void askLaws() {
        int m = upTo(1000);
        mean("thousand", x.thousand(m, 0), x.thousand(m, 1), model.weighed(new int[] {1, m, 0, 0}, null));
        int most = random.nextBoolean() ? upTo(2000) : upTo(999999);
        int price = -1;
        for (int more = 1000; more >= 0; more -= 50) {
            if (model.weighed(new int[] {1, more, 0, 0}, null) <= 1000L * most * model.weights()) {
                price = more;
            }
        }
        due.is("price", x.price(most), price);
    }

    private void judge() {
        int m = upTo(1000);
        int want = -1;
        int h = model.wall;
        x.sheet(0, upTo(2), model.years);
        for (int y = 0; y < model.years; y++) {
            int up = upTo(20);
            x.cell(0, y, up);
            h = Math.min(99, h + up);
            for (int p = 0; p < model.paths.size(); p++) {
                want = want < 0 && model.floods(model.level(p, y), h) > m ? y : want;
            }
        }
        due.is("judge", x.judge(0, m), want);
    }

    private void askAway(int p) {
        int m = upTo(1) * upTo(1000);
        for (int y = 0; y < model.years; y++) {
            int left = 0;
            int worth = 0;
            for (int t = 0; t < model.streets.size(); t++) {
                int when = model.when(t, p, m);
                boolean gone = when >= 0 && when <= y;
                left |= gone ? 1 << t : 0;
                worth += gone ? 0 : model.streets.get(t)[1];
            }
            due.is("away", x.away(p, y, m, 0), left);
            due.is("away", x.away(p, y, m, 1), worth);
        }
    }

    private void askBay(int p) {
        int towns = model.towns.size();
        int sets = 1 << towns;
        for (int y = 0; y < model.years; y++) {
            int up = 1 + upTo(29);
            int m = upTo(1000);
            int rests = 0;
            int together = -1;
            long least = 0;
            for (int set = 0; set < sets; set++) {
                boolean rest = true;
                long sum = 0;
                for (int t = 0; t < towns; t++) {
                    long pays = model.pays(t, p, y, up, set);
                    due.is("pays", x.pays(t, p, y, up, set), pays);
                    rest &= model.pays(t, p, y, up, set ^ 1 << t) >= pays;
                    sum += pays;
                }
                rests |= rest ? 1 << set : 0;
                if (together < 0 || sum < least) {
                    together = set;
                    least = sum;
                }
                due.is("joint", x.joint(set, p, y, m), set == 0 ? HowHigh.BAD : model.joint(set, p, y, m));
            }
            due.is("rests", x.rests(p, y, up), rests);
            due.is("together", x.together(p, y, up), together);
            join(p, y, m);
        }
    }

    private void join(int p, int y, int m) {
        int towns = model.towns.size();
        int all = (1 << towns) - 1;
        x.sheet(2, 2, towns);
        int[] sums = new int[all + 1];
        for (int t = 0; t < towns; t++) {
            int part = upTo(3) == 0 ? upTo(99999) : upTo(Math.min(99999, model.joint(all, p, y, m)));
            x.cell(2, t, part);
            for (int set = 0; set <= all; set++) {
                sums[set] += (set >> t & 1) * part;
            }
        }
        int want = towns > 0 && sums[all] < model.joint(all, p, y, m) ? all : -1;
        for (int set = all; set > 0; set--) {
            want = sums[set] > model.joint(set, p, y, m) ? set : want;
        }
        due.is("join", x.join(2, p, y, m), want);
    }
}
