import java.util.ArrayList;
import java.util.List;

/** The document told a second time, by plain search and without care for time, to hold the class against. */
final class Model {
    /** A part of a law, by over, behind, wall, level, year, up. */
    interface Part {
        int of(int over, int behind, int wall, int level, int year, int up);
    }

    int years = 8;
    int wall = 20;
    int behind = 100;
    int broad;
    int push = 1;
    final List<int[]> paths = new ArrayList<>();
    final List<int[]> storms = new ArrayList<>();
    final List<int[]> rules = new ArrayList<>();
    final List<int[]> told = new ArrayList<>();
    final List<int[]> streets = new ArrayList<>();
    final List<int[]> towns = new ArrayList<>();
    Part harm = (over, rich, h, level, year, up) -> over * rich;
    Part cost = (over, rich, h, level, year, up) -> 20 + up * h;
    Part grow = (over, rich, h, level, year, up) -> year < 9 ? 1 : 0;

    int level(int p, int y) {
        int[] path = paths.get(p);
        int later = y > path[3] ? (y - path[3]) * path[4] / 10 : 0;
        return path[1] + path[2] * y / 10 + later;
    }

    int floods(int level, int h) {
        return storms.stream().filter(s -> level + s[0] > h).mapToInt(s -> s[1]).sum();
    }

    private static int clamp(int v, int least, int most) {
        return Math.max(least, Math.min(most, v));
    }

    int oneHarm(int over, int level, int h, int y, int rich) {
        return clamp(harm.of(over, rich, h, level, y, 0), 0, 9999);
    }

    long harm(int level, int h, int y, int rich) {
        long sum = 0;
        for (int[] s : storms) {
            if (level + s[0] > h) {
                sum += (long) s[1] * oneHarm(level + s[0] - h, level, h, y, rich);
            }
        }
        return sum;
    }

    int cost(int up, int h, int y, int rich, int isBroad) {
        return up == 0 ? 0 : clamp(cost.of(isBroad, rich, h, 0, y, up), 0, 9999);
    }

    int behindThen(int y) {
        return y == 0 ? behind : grown(behindThen(y - 1), y - 1);
    }

    int grown(int rich, int y) {
        return clamp(rich + clamp(grow.of(0, rich, 0, 0, y, 0), -999, 999), 0, 9999);
    }

    int need(int level, int h, int most) {
        int up = 0;
        while (up < 20 && floods(level, h + up) > most) {
            up++;
        }
        return up;
    }

    /** What came of a rule on a path: rows of wall, raised, behind, left; then what is paid, and all harm. */
    static final class Came {
        final int[][] rows = new int[16][4];
        long paid;
        long harm;

        long total() {
            return 1000 * paid + harm;
        }
    }

    Came follow(int[] rule, int[] tells, int p) {
        Came came = new Came();
        int h = wall;
        int rich = behind;
        boolean left = false;
        for (int y = 0; y < years; y++) {
            int level = level(p, y);
            came.rows[y][2] = rich;
            if (!left && rule[0] == 5 && level >= h) {
                left = true;
                came.paid += rich;
                rich = 0;
            }
            if (!left) {
                int up = Math.min(99 - h, wanted(rule, tells, level, h, y));
                came.paid += cost(up, h, y, rich, broad);
                h += up;
                came.rows[y][1] = up;
                came.harm += harm(level, h, y, rich);
                rich = grown(rich, y);
            }
            came.rows[y][0] = h;
            came.rows[y][3] = left ? 1 : 0;
        }
        return came;
    }

    private int wanted(int[] rule, int[] tells, int level, int h, int y) {
        boolean due = y % Math.max(1, rule[1]) == 0;
        return switch (rule[0]) {
            case 1 -> need(level, h, rule[1]);
            case 2 -> due ? rule[2] : 0;
            case 3, 5 -> due && level + rule[3] >= h ? rule[2] : 0;
            case 4 -> tells[y];
            default -> 0;
        };
    }

    long total(int r, int p) {
        return follow(rules.get(r), told.get(r), p).total();
    }

    long weights() {
        return paths.stream().mapToLong(p -> p[0]).sum();
    }

    long weighed(int[] rule, int[] tells) {
        long sum = 0;
        for (int p = 0; p < paths.size(); p++) {
            sum += paths.get(p)[0] * follow(rule, tells, p).total();
        }
        return sum;
    }

    /** A plan's raisings, and behind them what it comes to, by weights, for p -1. */
    long[] best(int p, int idle, int isBroad) {
        long[] plan = new long[years + 1];
        long[] least = new long[years + 1];
        least[years] = Long.MAX_VALUE;
        search(p, idle, isBroad, 0, wall, plan, least);
        return least;
    }

    /** Tries all plans, those with less raising first, and keeps the first of the least ones. */
    private void search(int p, int idle, int isBroad, int y, int h, long[] plan, long[] least) {
        if (y == years) {
            if (plan[years] < least[years]) {
                System.arraycopy(plan, 0, least, 0, years + 1);
            }
            return;
        }
        long before = plan[years];
        for (int up = 0; up <= (y < idle ? 0 : 3) && h + up <= 99; up++) {
            plan[y] = up;
            plan[years] = before + year(p, isBroad, y, h, up);
            search(p, idle, isBroad, y + 1, h + up, plan, least);
        }
        plan[years] = before;
    }

    private long year(int p, int isBroad, int y, int h, int up) {
        int rich = behindThen(y);
        long sum = 0;
        for (int q = 0; q < paths.size(); q++) {
            if (p == q || p < 0) {
                long now = 1000L * cost(up, h, y, rich, isBroad) + harm(level(q, y), h + up, y, rich);
                sum += p < 0 ? paths.get(q)[0] * now : now;
            }
        }
        return sum;
    }

    long[] drawn(int r, int seed) {
        long lot = (seed + 1) * 48271L % 2147483647L;
        int p = pick(paths, 0, (int) (lot % weights()));
        Came came = follow(rules.get(r), told.get(r), p);
        long[] sums = new long[2];
        for (int y = 0; y < years; y++) {
            lot = lot * 48271L % 2147483647L;
            int s = pick(storms, 1, (int) (lot % 1000));
            int[] row = came.rows[y];
            int over = s < 0 ? 0 : level(p, y) + storms.get(s)[0] - row[0];
            if (over > 0 && row[3] == 0) {
                sums[0]++;
                sums[1] += oneHarm(over, level(p, y), row[0], y, row[2]);
            }
        }
        return sums;
    }

    private static int pick(List<int[]> of, int by, int lot) {
        int left = lot;
        for (int i = 0; i < of.size(); i++) {
            left -= of.get(i)[by];
            if (left < 0) {
                return i;
            }
        }
        return -1;
    }

    int when(int t, int p, int m) {
        for (int y = 0; y < years; y++) {
            if (floods(level(p, y), streets.get(t)[0]) > m) {
                return y;
            }
        }
        return -1;
    }

    long pays(int t, int p, int y, int up, int set) {
        int own = towns.get(t)[0] + up * (set >> t & 1);
        int water = level(p, y);
        for (int o = 0; o < towns.size(); o++) {
            water += towns.get(o)[0] + up * (set >> o & 1) - own > 5 ? push : 0;
        }
        int rich = towns.get(t)[1];
        long raising = (set >> t & 1) != 0 ? 1000L * cost(up, towns.get(t)[0], y, rich, broad) : 0;
        return harm(water, own, y, rich) + raising;
    }

    int joint(int set, int p, int y, int m) {
        int up = 0;
        int lowest = 99;
        int rich = 0;
        for (int t = 0; t < towns.size(); t++) {
            if ((set >> t & 1) != 0) {
                up = Math.max(up, need(level(p, y), towns.get(t)[0], m));
                lowest = Math.min(lowest, towns.get(t)[0]);
                rich += towns.get(t)[1];
            }
        }
        return cost(up, lowest, y, Math.min(rich, 9999), broad);
    }
}
