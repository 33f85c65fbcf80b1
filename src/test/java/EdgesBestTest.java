/** Promises 25 to 35, each sentence that names a boundary: the best plans, what they are held against. */
public final class EdgesBestTest {
    private static final Due due = new Due("EdgesBestTest");
    private static final int BAD = HowHigh.BAD;
    private static final long NO = HowHigh.NO;

    public static void main(String[] args) {
        p25path();
        p25mean();
        p25steepest();
        p25highestWall();
        p25nothingLeft();
        p26likeOnes();
        p26likeOnesOfAll();
        p26years();
        p27know();
        p28waits();
        p29broad();
        p30decided();
        p30onEachAlone();
        p31regret();
        p32worst();
        p33sure();
        p34thousand();
        p34least();
        p35price();
        p35steps();
        withoutPaths();
        due.end();
    }

    /** Level 0 and a storm of 10 in each year, harming 100 by a wall below it; 4 years; a cost that is told. */
    private static HowHigh coast(int wall, String cost) {
        HowHigh x = new HowHigh();
        x.set(0, 4);
        x.set(1, wall);
        x.path(1, 0, 0, 0);
        x.storm(10, 1000);
        LawTest.law(x, "harm 100;cost " + cost + ";grow 0;");
        return x;
    }

    private static void best(String call, HowHigh x, int p, long above, long below) {
        due.is("25 " + call + ", above", x.best(p, 0), above);
        due.is("25 " + call + ", below", x.best(p, 1), below);
    }

    private static void plan(String call, HowHigh x, int p, int... want) {
        for (int y = 0; y < want.length; y++) {
            due.is("26 " + call + " in year " + y, x.planned(p, y), want[y]);
        }
    }

    /** TOTAL of the BEST on a PATH, by 1000. */
    private static void p25path() {
        HowHigh x = coast(9, "1");
        best("raised by 1", x, 0, 1, 1);
        best("of all", x, -1, 1, 1);
        HowHigh y = new HowHigh();
        y.path(7, 0, 0, 0);
        y.storm(40, 1);
        y.set(0, 1);
        LawTest.law(y, "harm 8;cost 9;grow 0;");
        best("in lowest terms", y, 0, 1, 125);
        best("by a weight that does not matter", y, -1, 1, 125);
        LawTest.law(y, "harm 7;cost 9;grow 0;");
        best("7 by 1000", y, 0, 7, 1000);
        LawTest.law(y, "harm 0;cost 9;grow 0;");
        best("0 by 1", y, 0, 0, 1);
        due.is("25 no such path", y.best(1, 0), NO);
        due.is("25 no such path", y.best(-2, 0), NO);
        due.is("25 no such part", y.best(0, 2), NO);
        due.is("25 no such part", y.best(-1, -1), NO);
    }

    /** BEST of all: by which it is least in the mean, the same on all PATHS. */
    private static void p25mean() {
        HowHigh x = coast(10, "60");
        x.path(1, 1, 0, 0);
        // Raising costs 60 on both, or 400 on the second alone: by weights 1 and w that is 60 or 400 w by 1 and w.
        best("equal weights", x, -1, 60, 1);
        x.weigh(0, 5);
        best("400 by 6 is above 60", x, -1, 60, 1);
        x.weigh(0, 6);
        best("400 by 7 is below 60", x, -1, 400, 7);
        plan("not raised at all", x, -1, 0, 0, 0, 0);
        plan("raised on the second", x, 1, 1, 0, 0, 0);
        plan("not on the first", x, 0, 0, 0, 0, 0);
        x.weigh(0, 99);
        x.weigh(1, 99);
        best("the most", x, -1, 60, 1);
        plan("the same on all paths", x, -1, 1, 0, 0, 0);
    }

    /** A PLAN raises the wall by 0 .. 3 in each year. */
    private static void p25steepest() {
        HowHigh x = coast(7, "10*up");
        best("3 at once", x, 0, 30, 1);
        plan("3 at once", x, 0, 3, 0, 0, 0);
        x = coast(6, "10*up");
        best("4 in two years", x, 0, 100 + 40, 1);
        plan("4 in two years", x, 0, 1, 3, 0, 0);
        x = coast(4, "10*up");
        best("6 in two years", x, 0, 100 + 60, 1);
        plan("6 in two years", x, 0, 3, 3, 0, 0);
        x = coast(1, "10*up");
        best("9 in three", x, 0, 200 + 90, 1);
        plan("9 in three", x, 0, 3, 3, 3, 0);
        x = coast(0, "5*up");
        best("10 in four", x, 0, 300 + 50, 1);
        plan("10 in four", x, 0, 1, 3, 3, 3);
        x = coast(0, "10*up+1");
        best("10 in four are dearer than 400", x, 0, 400, 1);
        plan("not at all", x, 0, 0, 0, 0, 0);
    }

    /** 99 at most. */
    private static void p25highestWall() {
        HowHigh x = new HowHigh();
        x.set(0, 16);
        x.set(1, 60);
        x.path(1, 30, 40, 40);
        x.storm(40, 1000);
        // Whatever a year brings, it is worth to raise as soon and as far as can be.
        LawTest.law(x, "harm over*9;cost 0;grow 0;");
        int wall = 60;
        long harm = 0;
        for (int y = 0; y < 16; y++) {
            int up = Math.min(3, 99 - wall);
            wall += up;
            harm += (x.level(0, y) + 40 - wall) * 9L;
            due.is("26 as far as can be in " + y, x.planned(0, y), up);
            due.is("26 as far as can be in " + y, x.planned(-1, y), up);
        }
        best("up to 99", x, 0, harm, 1);
        int[] walls = {50, 51, 52, 53, 54};
        for (int from : walls) {
            x.set(1, from);
            int sum = from;
            for (int y = 0; y < 16; y++) {
                sum += x.planned(0, y);
            }
            due.is("26 from " + from + " on", sum, Math.min(99, from + 48));
        }
    }

    /** Nothing is left, by a plan; it may come to more than a rule that leaves. */
    private static void p25nothingLeft() {
        HowHigh x = coast(0, "9999");
        x.set(2, 1);
        x.rule(5, 0, 0, 0);
        due.is("31 left for 1", x.total(0, 0), 1000);
        best("four years of 100", x, 0, 400, 1);
        due.is("31 below 0", x.regret(0, 0), -399000);
        due.is("32 below 0", x.worst(0), -399000);
    }

    /** Of like ones in each year, from 0 on, the least raising with which it can go on. */
    private static void p26likeOnes() {
        plan("nothing matters", coast(20, "0"), 0, 0, 0, 0, 0);
        plan("raising is like harm", coast(10, "0"), 0, 0, 0, 0, 0);
        plan("1 in each year but one", coast(9, "100"), 0, 1, 0, 0, 0);
        plan("as dear as never", coast(9, "400"), 0, 0, 0, 0, 0);
        plan("it may wait, but the first is needed", coast(8, "50*up"), 0, 2, 0, 0, 0);
        HowHigh x = coast(9, "0");
        LawTest.law(x, "harm 100*(1<year);cost 50;grow 0;");
        plan("as late as can be", x, 0, 0, 0, 1, 0);
        x.set(1, 8);
        LawTest.law(x, "harm 100*(1<year);cost 30*up;grow 0;");
        plan("2 at once, as late as can be", x, 0, 0, 0, 2, 0);
        x.set(1, 5);
        LawTest.law(x, "harm 100*(1<year);cost 30*up;grow 0;");
        plan("3 at last, 2 ahead of that", x, 0, 0, 2, 3, 0);
        x.set(1, 3);
        plan("1, 3 and 3 cost 210 and save 200", x, 0, 0, 0, 0, 0);
        LawTest.law(x, "harm 100*(1<year);cost 20*up;grow 0;");
        plan("1, 3 and 3", x, 0, 1, 3, 3, 0);
    }

    private static void p26likeOnesOfAll() {
        HowHigh x = coast(9, "50");
        x.path(1, 0, 0, 110);
        // On the second path LEVEL rises by 1 from year 2 on: 2 are raised there, once.
        plan("on the first", x, 0, 1, 0, 0, 0);
        plan("on the second", x, 1, 3, 0, 0, 0);
        plan("of all", x, -1, 3, 0, 0, 0);
        LawTest.law(x, "harm 100*(2<year);cost 50;grow 0;");
        plan("all in the last year", x, -1, 0, 0, 0, 3);
        plan("1 in the last year", x, 0, 0, 0, 0, 1);
        LawTest.law(x, "harm 50*(2<year);cost 50;grow 0;");
        plan("as dear as none", x, -1, 0, 0, 0, 0);
    }

    /** -5: no such PATH (p -1, too, without PATHS); -7: year. */
    private static void p26years() {
        HowHigh x = coast(9, "1");
        for (int years : new int[] {1, 4, 16}) {
            x.set(0, years);
            for (int p = -1; p < 1; p++) {
                due.holds("26 the last year", x.planned(p, years - 1) >= 0);
                due.is("26 one behind it", x.planned(p, years), -7);
                due.is("26 one ahead of 0", x.planned(p, -1), -7);
            }
            due.is("26 no such path, no such year", x.planned(1, years), -5);
            due.is("26 no such path", x.planned(-2, 0), -5);
        }
        HowHigh y = new HowHigh();
        due.is("26 -1 without paths", y.planned(-1, 0), -5);
        due.is("26 -1 without paths, no such year", y.planned(-1, 16), -5);
        y.path(1, 0, 0, 0);
        due.is("26 -1 with a path", y.planned(-1, 0), 0);
    }

    private static void worth(String call, long above, long below, long wantAbove, long wantBelow) {
        due.is(call + ", above", above, wantAbove);
        due.is(call + ", below", below, wantBelow);
    }

    /** What the BEST of all comes to in the mean, less what the BEST on each PATH does, by WEIGHTS. */
    private static void p27know() {
        HowHigh x = coast(10, "60");
        worth("27 one path", x.know(0), x.know(1), 0, 1);
        x.path(1, 1, 0, 0);
        worth("27 60 less 30", x.know(0), x.know(1), 30, 1);
        x.weigh(0, 6);
        worth("27 400 less 60, by 7", x.know(0), x.know(1), 340, 7);
        x.weigh(1, 99);
        worth("27 60 less 99 by 105 of it", x.know(0), x.know(1), 24, 7);
        x.path(1, 30, 0, 0);
        x.weigh(0, 1);
        x.weigh(1, 1);
        // On the third path nothing helps: 400 there, whatever is raised.
        worth("27 40 less 20", x.know(0), x.know(1), 40, 1);
        best("60 and 400 by 3", x, -1, 180 + 400, 3);
        due.is("27 no such part", x.know(2), NO);
        due.is("27 no such part", x.know(-1), NO);
    }

    /** If nothing may be raised in the first n years (0 .. 16). */
    private static void p28waits() {
        HowHigh x = coast(9, "10");
        worth("28 none", x.waits(0, 0), x.waits(0, 1), 0, 1);
        worth("28 one", x.waits(1, 0), x.waits(1, 1), 100, 1);
        worth("28 three", x.waits(3, 0), x.waits(3, 1), 300, 1);
        worth("28 all", x.waits(4, 0), x.waits(4, 1), 390, 1);
        worth("28 more than all", x.waits(5, 0), x.waits(5, 1), 390, 1);
        worth("28 16", x.waits(16, 0), x.waits(16, 1), 390, 1);
        due.is("28 17", x.waits(17, 0), NO);
        due.is("28 -1", x.waits(-1, 0), NO);
        due.is("28 no such part", x.waits(0, 2), NO);
        plan("it is as before", x, -1, 1, 0, 0, 0);
        best("it is as before", x, -1, 10, 1);
        x.set(0, 16);
        worth("28 15 of 16", x.waits(15, 0), x.waits(15, 1), 1500, 1);
        worth("28 16 of 16", x.waits(16, 0), x.waits(16, 1), 1590, 1);
        x.path(2, 0, 0, 0);
        x.weigh(0, 99);
        worth("28 of all paths", x.waits(1, 0), x.waits(1, 1), 100, 1);
        x.weigh(1, 99);
        LawTest.law(x, "harm 100-100*(year=3);cost 10;grow 0;");
        x.set(0, 4);
        worth("28 waiting three", x.waits(3, 0), x.waits(3, 1), 290, 1);
    }

    /** If it isn't BROAD, less what it does if it is. */
    private static void p29broad() {
        HowHigh x = coast(9, "30-over*12");
        for (int broad = 0; broad < 2; broad++) {
            x.set(3, broad);
            worth("29 cheaper", x.broadWorth(0), x.broadWorth(1), 12, 1);
            due.is("29 it stays", x.count(3), broad);
            best("it stays", x, -1, broad == 0 ? 30 : 18, 1);
        }
        x = coast(9, "30+over*12");
        worth("29 dearer", x.broadWorth(0), x.broadWorth(1), -12, 1);
        x = coast(9, "395+over*90");
        worth("29 dearer than harm", x.broadWorth(0), x.broadWorth(1), -5, 1);
        x = coast(9, "30");
        worth("29 no matter", x.broadWorth(0), x.broadWorth(1), 0, 1);
        x = coast(9, "401-over*2");
        x.path(2, 29, 0, 0);
        // On the second path nothing helps, so that raising for both saves 400 by 3 and costs 401 or 399.
        worth("29 not raised at all", x.broadWorth(0), x.broadWorth(1), 0, 1);
        x = coast(9, "101-over*2");
        x.path(2, 29, 0, 0);
        worth("29 raised for both", x.broadWorth(0), x.broadWorth(1), 2, 1);
        x = coast(9, "134-over");
        x.path(2, 29, 0, 0);
        // 134 is more than 400 by 3, 133 is less: by a third.
        worth("29 a third", x.broadWorth(0), x.broadWorth(1), 1, 3);
        due.is("29 no such part", x.broadWorth(2), NO);
        due.is("29 no such part", x.broadWorth(-1), NO);
    }

    /** The last of the years in which the BEST on some PATH raises the wall first; -1. */
    private static void p30decided() {
        HowHigh x = coast(9, "10");
        due.is("30 at once", x.decided(), 0);
        x.path(1, 1, 0, 0);
        due.is("30 both at once", x.decided(), 0);
        LawTest.law(x, "harm 100*(2<year);cost 10;grow 0;");
        due.is("30 both in the last year", x.decided(), 3);
        LawTest.law(x, "harm 100*(2<year or 10<over+level);cost 10;grow 0;");
        x.set(0, 3);
        due.is("30 never", x.decided(), -1);
        HowHigh y = coast(10, "10");
        due.is("30 never on the only one", y.decided(), -1);
        y.path(1, 1, 0, 0);
        due.is("30 never on one", y.decided(), -1);
        HowHigh w = new HowHigh();
        w.set(0, 16);
        w.set(1, 10);
        w.path(1, 0, 0, 510);
        w.path(1, 0, 0, 1410);
        w.storm(10, 1000);
        LawTest.law(w, "harm 100;cost 10;grow 0;");
        due.is("30 in the last year on one", w.decided(), 15);
        w.path(1, 0, 0, 1510);
        due.is("30 never on one", w.decided(), -1);
        due.is("30 no path", new HowHigh().decided(), -1);
    }

    /** The BEST on each PATH: that of all may never raise, or later than each of them. */
    private static void p30onEachAlone() {
        HowHigh x = new HowHigh();
        x.set(0, 1);
        x.set(1, 19);
        x.path(1, 0, 0, 0);
        x.path(1, 2, 0, 0);
        x.storm(20, 100);
        LawTest.law(x, "harm 105+level*105;cost up*10;grow 0;");
        plan("by 1, the path known", x, 0, 1);
        plan("by 3, the other path known", x, 1, 3);
        plan("none of all", x, -1, 0);
        due.is("30 on each, though not of all", x.decided(), 0);
        x.set(0, 2);
        LawTest.law(x, "harm 105+level*105;cost up*(10-9*year);grow 0;");
        plan("by 1, the path known", x, 0, 1, 0);
        plan("by 3, the other path known", x, 1, 3, 0);
        plan("later of all", x, -1, 0, 3);
        due.is("30 on each, though later of all", x.decided(), 0);
    }

    private static void p31regret() {
        HowHigh x = coast(9, "10");
        x.rule(0, 0, 0, 0);
        x.rule(2, 100, 100, 0);
        due.is("31 400 less 10", x.regret(0, 0), 390000);
        due.is("31 as the best", x.regret(1, 0), 0);
        due.is("31 no such rule", x.regret(2, 0), NO);
        due.is("31 no such path", x.regret(0, 1), NO);
        due.is("31 no -1", x.regret(0, -1), NO);
    }

    private static void p32worst() {
        HowHigh x = coast(10, "10");
        x.rule(0, 0, 0, 0);
        x.rule(2, 100, 100, 0);
        due.is("32 none", x.worst(0), 0);
        due.is("32 10 too many", x.worst(1), 10000);
        x.path(99, 1, 0, 0);
        due.is("32 on the second, whatever its weight", x.worst(0), 390000);
        due.is("32 on the first", x.worst(1), 10000);
        x.weigh(0, 99);
        x.weigh(1, 1);
        due.is("32 on the second, whatever its weight", x.worst(0), 390000);
        due.is("32 no such rule", x.worst(2), NO);
        due.is("32 no such rule", x.worst(-1), NO);
    }

    /** The RULE whose WORST, whose MEAN is least, of like ones the first; -1: there is none. */
    private static void p33sure() {
        HowHigh x = coast(10, "10");
        x.path(1, 1, 0, 0);
        due.is("33 none by worst", x.sure(0), -1);
        due.is("33 none by mean", x.sure(1), -1);
        due.is("33 no such what", x.sure(2), BAD);
        due.is("33 no such what", x.sure(-1), BAD);
        x.rule(0, 0, 0, 0);
        x.rule(0, 0, 0, 0);
        due.is("33 the first of like ones", x.sure(0), 0);
        due.is("33 the first of like ones", x.sure(1), 0);
        x.rule(2, 100, 200, 0);
        x.rule(2, 100, 100, 0);
        due.is("33 the first of like better ones", x.sure(0), 2);
        due.is("33 the first of like better ones", x.sure(1), 2);
        x.weigh(0, 99);
        due.is("33 by worst", x.sure(0), 2);
        due.is("33 by mean", x.sure(1), 0);
        for (int r = 4; r < 8; r++) {
            x.rule(0, 0, 0, 0);
        }
        x.set(2, 0);
        due.is("33 of eight", x.sure(0), 2);
        HowHigh y = coast(0, "9999");
        y.set(2, 1);
        y.rule(0, 0, 0, 0);
        y.rule(5, 0, 0, 0);
        due.is("33 a worst below 0", y.sure(0), 1);
        due.is("33 left for 1", y.sure(1), 1);
    }

    /** MEAN of a LAW with MORE m (0 .. 1000). */
    private static void p34thousand() {
        HowHigh x = coast(9, "10");
        worth("34 1000", x.thousand(1000, 0), x.thousand(1000, 1), 400, 1);
        worth("34 999", x.thousand(999, 0), x.thousand(999, 1), 10, 1);
        worth("34 0", x.thousand(0, 0), x.thousand(0, 1), 10, 1);
        due.is("34 1001", x.thousand(1001, 0), NO);
        due.is("34 -1", x.thousand(-1, 0), NO);
        due.is("34 no such part", x.thousand(0, 2), NO);
        due.is("34 no rule came", x.count(6), 0);
        for (int r = 0; r < 8; r++) {
            x.rule(1, 1000, 0, 0);
        }
        worth("34 with all rules there can be", x.thousand(999, 0), x.thousand(999, 1), 10, 1);
        due.is("34 no rule was changed", x.ruleTold(7, 1), 1000);
        x.path(2, 29, 0, 0);
        LawTest.law(x, "harm 100;cost up;grow 0;");
        // 1 on the first; 20 and 10 on the second, where one year is harmed: 261 by 3.
        worth("34 of all", x.thousand(0, 0), x.thousand(0, 1), 87, 1);
    }

    /** The least (20 at most) by which FLOODS over it are no more than MORE. */
    private static void p34least() {
        HowHigh x = new HowHigh();
        x.set(0, 1);
        x.set(1, 0);
        x.path(1, 0, 0, 0);
        x.storm(19, 1);
        LawTest.law(x, "harm 0;cost up;grow 0;");
        due.is("34 19", x.thousand(0, 0), 19);
        x.storm(20, 1);
        due.is("34 20", x.thousand(0, 0), 20);
        due.is("34 19 are enough for 1", x.thousand(1, 0), 19);
        x.storm(21, 1);
        due.is("34 20 at most", x.thousand(0, 0), 20);
        due.is("34 20 are just enough for 1", x.thousand(1, 0), 20);
        due.is("34 none for 3", x.thousand(3, 0), 0);
    }

    /** The least of 0, 50, 100, .. 1000 as MORE of a LAW whose MEAN is no more than most. */
    private static void p35price() {
        HowHigh x = coast(9, "10");
        due.is("35 just 10", x.price(10), 0);
        due.is("35 less than 10", x.price(9), -1);
        LawTest.law(x, "harm 100;cost 500;grow 0;");
        due.is("35 500", x.price(500), 0);
        due.is("35 499", x.price(499), 1000);
        due.is("35 just 400", x.price(400), 1000);
        due.is("35 399", x.price(399), -1);
        due.is("35 0", x.price(0), -1);
        due.is("35 the most", x.price(999999), 0);
        due.is("35 above the most", x.price(1000000), BAD);
        due.is("35 -1", x.price(-1), BAD);
        due.is("35 no rule came", x.count(6), 0);
        HowHigh y = new HowHigh();
        y.path(1, 0, 0, 0);
        due.is("35 no storms", y.price(0), 0);
        y.set(0, 1);
        y.set(1, 0);
        y.storm(21, 1);
        LawTest.law(y, "harm 1;cost 10;grow 0;");
        due.is("35 a mean of 10 and 1 by 1000", y.price(10), 50);
        due.is("35 a mean of 10 and 1 by 1000", y.price(11), 0);
        due.is("35 a mean of 1 by 1000", y.price(1), 50);
        due.is("35 a mean of 1 by 1000", y.price(0), -1);
    }

    private static void p35steps() {
        // A wall that is needed at all costs 10, and MORE at least as many as come needs none.
        int[] many = {1, 49, 50, 51, 100, 101, 949, 950, 951, 999, 1000};
        int[] want = {50, 50, 50, 100, 100, 150, 950, 950, 1000, 1000, 1000};
        for (int i = 0; i < many.length; i++) {
            HowHigh x = new HowHigh();
            x.set(0, 1);
            x.set(1, 9);
            x.path(1, 0, 0, 0);
            x.storm(10, many[i]);
            LawTest.law(x, "harm 0;cost 10;grow 0;");
            due.is("35 " + many[i] + " storms", x.price(9), want[i]);
            due.is("35 " + many[i] + " storms", x.price(10), 0);
        }
    }

    private static void withoutPaths() {
        HowHigh x = new HowHigh();
        x.storm(40, 1000);
        worth("25 best", x.best(-1, 0), x.best(-1, 1), 0, 1);
        worth("27 know", x.know(0), x.know(1), 0, 1);
        worth("28 waits", x.waits(16, 0), x.waits(16, 1), 0, 1);
        worth("29 broad", x.broadWorth(0), x.broadWorth(1), 0, 1);
        worth("34 thousand", x.thousand(1000, 0), x.thousand(1000, 1), 0, 1);
        due.is("35 price", x.price(0), 0);
        due.is("35 price", x.price(1000000), BAD);
        due.is("25 no path", x.best(0, 0), NO);
        due.is("26 no plan", x.planned(-1, 0), -5);
        due.is("30 decided", x.decided(), -1);
        due.is("33 no rule", x.sure(0), -1);
        x.rule(5, 0, 0, 0);
        x.rule(0, 0, 0, 0);
        due.is("33 all are alike", x.sure(0), 0);
        due.is("33 all are alike", x.sure(1), 0);
        due.is("31 regret", x.regret(0, 0), NO);
        due.is("32 worst", x.worst(0), NO);
        due.is("32 worst", x.worst(1), NO);
        due.is("25 no such part", x.best(-1, 2), NO);
        due.is("27 no such part", x.know(2), NO);
        due.is("28 no such n", x.waits(17, 0), NO);
        due.is("29 no such part", x.broadWorth(2), NO);
        due.is("34 no such m", x.thousand(1001, 0), NO);
    }
}
