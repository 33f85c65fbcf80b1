/** Promises 14, 15 and 19 to 24: rules, and what they come to. */
public final class RulesTest {
    private static final Due due = new Due("RulesTest");

    public static void main(String[] args) {
        making();
        tellingRules();
        told();
        lawRaises();
        stepsAndWaits();
        leaving();
        highestWall();
        totals();
        means();
        rowRefusals();
        judging();
        drawing();
        due.end();
    }

    /** A sheet of ints. */
    static void sheet(HowHigh x, int s, int... numbers) {
        x.sheet(s, 2, numbers.length);
        for (int i = 0; i < numbers.length; i++) {
            x.cell(s, i, numbers[i]);
        }
    }

    /** One path that rises by 1 a year from a base, storms of 10 (100 of them) and 20 (10 of them). */
    private static HowHigh rising(int base) {
        HowHigh x = new HowHigh();
        x.path(2, base, 10, 0);
        x.storm(10, 100);
        x.storm(20, 10);
        LawTest.law(x, "harm over ; cost 5 + up * 10 ; grow 2 ;");
        return x;
    }

    private static void making() {
        HowHigh x = new HowHigh();
        due.is("kind", x.rule(6, 0, 0, 0), HowHigh.BAD);
        due.is("kind", x.rule(-1, 0, 0, 0), HowHigh.BAD);
        due.is("more", x.rule(0, 1001, 0, 0), HowHigh.BAD);
        due.is("more", x.rule(0, -1, 0, 0), HowHigh.BAD);
        due.is("rest", x.rule(0, 0, -1, 0), HowHigh.BAD);
        due.is("near", x.rule(0, 0, 21, 0), HowHigh.BAD);
        due.is("near", x.rule(0, 0, 921, 0), HowHigh.BAD);
        due.is("step", x.rule(0, 0, 1000, 0), HowHigh.BAD);
        due.is("no such sheet", x.rule(4, 0, 0, 4), HowHigh.BAD);
        due.is("no such sheet", x.rule(4, 0, 0, -1), HowHigh.BAD);
        due.is("missing", x.rule(4, 0, 0, 3), -11);
        due.is("bad ahead of missing", x.rule(4, 0, 21, 3), HowHigh.BAD);
        sheet(x, 0, new int[15]);
        due.is("too short", x.rule(4, 0, 0, 0), HowHigh.BAD);
        sheet(x, 0, new int[17]);
        due.is("too long", x.rule(4, 0, 0, 0), HowHigh.BAD);
        sheet(x, 0, 20, 0, 1, 2, 3, 4, 5, 6, 7, 8, 9, 10, 11, 12, 13, 20);
        x.cell(0, 15, 21);
        due.is("a number", x.rule(4, 0, 0, 0), HowHigh.BAD);
        x.cell(0, 15, -1);
        due.is("a number", x.rule(4, 0, 0, 0), HowHigh.BAD);
        x.cell(0, 15, 20);
        due.is("none came", x.count(6), 0);
        due.is("told", x.rule(4, 0, 0, 0), 0);
        due.is("of others the sheet does not matter", x.rule(5, 1000, 920, 99), 1);
        for (int kind = 0; kind < 6; kind++) {
            due.is("of kind " + kind, x.rule(kind, 1, 1, 0), kind + 2);
        }
        due.is("full", x.rule(0, 0, 0, 0), HowHigh.FULL);
        due.is("bad ahead of full", x.rule(6, 0, 0, 0), HowHigh.BAD);
        due.is("missing ahead of full", x.rule(4, 0, 0, 1), -11);
        due.is("eight", x.count(6), 8);
    }

    private static void tellingRules() {
        HowHigh x = new HowHigh();
        x.rule(5, 1000, 920, 0);
        x.rule(0, 7, 103, 0);
        sheet(x, 2, 1, 2, 3, 4, 5, 6, 7, 8, 9, 10, 11, 12, 13, 14, 15, 16);
        x.rule(4, 3, 512, 2);
        x.cell(2, 0, 20);
        int[][] heads = {{5, 1000, 9, 20}, {0, 7, 1, 3}, {4, 3, 5, 12}};
        for (int r = 0; r < 3; r++) {
            for (int what = 0; what < 4; what++) {
                due.is("rule " + r + " what " + what, x.ruleTold(r, what), heads[r][what]);
            }
            for (int y = 0; y < 16; y++) {
                due.is("rule " + r + " year " + y, x.ruleTold(r, 4 + y), r == 2 ? y + 1 : 0);
            }
        }
        due.is("rule", x.ruleTold(3, 0), -5);
        due.is("rule", x.ruleTold(-1, 0), -5);
        due.is("rule", x.ruleTold(8, 0), -5);
        due.is("what", x.ruleTold(0, 20), -7);
        due.is("what", x.ruleTold(0, -1), -7);
        due.is("rule ahead of what", x.ruleTold(3, 20), -5);
    }

    private static void rowIs(HowHigh x, int r, int what, int... want) {
        for (int y = 0; y < want.length; y++) {
            due.is("row of rule " + r + " in " + y + " what " + what, x.row(r, 0, y, what), want[y]);
        }
    }

    private static void told() {
        HowHigh x = rising(0);
        x.set(0, 4);
        sheet(x, 0, 2, 0, 20, 1, 20, 20, 20, 20, 20, 20, 20, 20, 20, 20, 20, 20);
        x.rule(4, 0, 0, 0);
        rowIs(x, 0, 0, 22, 22, 42, 43);
        rowIs(x, 0, 1, 2, 0, 20, 1);
        rowIs(x, 0, 2, 100, 102, 104, 106);
        rowIs(x, 0, 3, 0, 0, 0, 0);
        due.is("spent", x.spent(0, 0), 25 + 205 + 15);
        due.is("no year more", x.row(0, 0, 4, 0), -7);
    }

    private static void lawRaises() {
        HowHigh x = rising(5);
        x.set(0, 3);
        x.set(1, 10);
        x.rule(1, 9, 0, 0);
        x.rule(1, 10, 0, 0);
        x.rule(1, 109, 0, 0);
        x.rule(1, 110, 0, 0);
        rowIs(x, 0, 1, 15, 1, 1);
        rowIs(x, 1, 1, 5, 1, 1);
        rowIs(x, 2, 1, 5, 1, 1);
        rowIs(x, 3, 1, 0, 0, 0);
        x.set(1, 0);
        rowIs(x, 0, 1, 20, 6, 1);
        x.set(1, 4);
        rowIs(x, 0, 0, 24, 26, 27);
    }

    private static void stepsAndWaits() {
        HowHigh x = rising(0);
        x.set(1, 10);
        x.rule(2, 3, 220, 0);
        x.rule(2, 0, 100, 0);
        x.rule(2, 1, 100, 0);
        x.rule(2, 1000, 900, 0);
        x.rule(3, 2, 108, 0);
        x.rule(3, 0, 308, 0);
        x.rule(0, 1, 900, 0);
        rowIs(x, 0, 1, 2, 0, 0, 2, 0, 0, 2, 0);
        rowIs(x, 1, 1, 1, 1, 1, 1, 1, 1, 1, 1);
        rowIs(x, 2, 1, 1, 1, 1, 1, 1, 1, 1, 1);
        rowIs(x, 3, 1, 9, 0, 0, 0, 0, 0, 0, 0);
        // In year 2 the level 2 and 8 are just the wall, 10.
        rowIs(x, 4, 1, 0, 0, 1, 0, 1, 0, 1, 0);
        rowIs(x, 5, 1, 0, 0, 3, 0, 0, 3, 0, 0);
        rowIs(x, 6, 1, 0, 0, 0, 0, 0, 0, 0, 0);
        rowIs(x, 6, 0, 10, 10, 10, 10, 10, 10, 10, 10);
    }

    private static void leaving() {
        HowHigh x = rising(0);
        x.set(1, 4);
        x.rule(5, 2, 103, 0);
        // It raises to 5 in year 2 (level 2 and 3 are over 4), to 6 in 4, and leaves at level 6.
        rowIs(x, 0, 0, 4, 4, 5, 5, 6, 6, 6, 6);
        rowIs(x, 0, 1, 0, 0, 1, 0, 1, 0, 0, 0);
        rowIs(x, 0, 2, 100, 102, 104, 106, 108, 110, 112, 0);
        rowIs(x, 0, 3, 0, 0, 0, 0, 0, 0, 1, 1);
        due.is("spent", x.spent(0, 0), 15 + 15 + 112);
        long harm = 0;
        int[] walls = {4, 4, 5, 5, 6, 6};
        for (int y = 0; y < walls.length; y++) {
            harm += x.harm(0, y, walls[y], 100 + 2 * y);
        }
        due.is("total", x.total(0, 0), 1000 * (15 + 15 + 112) + harm);
        x.set(1, 0);
        rowIs(x, 0, 3, 1, 1, 1, 1, 1, 1, 1, 1);
        rowIs(x, 0, 2, 100, 0, 0, 0, 0, 0, 0, 0);
        due.is("left at once", x.total(0, 0), 100000);
        x.set(2, 0);
        due.is("nothing to leave", x.total(0, 0), 0);
        rowIs(x, 0, 3, 1, 1, 1, 1, 1, 1, 1, 1);
        HowHigh y = rising(0);
        y.set(1, 0);
        y.rule(3, 2, 103, 0);
        rowIs(y, 0, 3, 0, 0, 0, 0, 0, 0, 0, 0);
    }

    private static void highestWall() {
        HowHigh x = rising(30);
        x.set(1, 60);
        x.set(0, 6);
        sheet(x, 0, 20, 18, 3, 5, 0, 7, 0, 0, 0, 0, 0, 0, 0, 0, 0, 0);
        x.rule(4, 0, 0, 0);
        rowIs(x, 0, 0, 80, 98, 99, 99, 99, 99);
        rowIs(x, 0, 1, 20, 18, 1, 0, 0, 0);
        due.is("only what is raised costs", x.spent(0, 0), 205 + 185 + 15);
    }

    private static void totals() {
        HowHigh x = CoastTest.coast();
        x.set(0, 5);
        x.set(1, 15);
        x.set(2, 50);
        x.rule(0, 0, 0, 0);
        x.rule(1, 50, 0, 0);
        due.is("harm alone", x.total(0, 0), 70240);
        due.is("nothing spent", x.spent(0, 0), 0);
        due.is("both", x.total(1, 1), 233980);
        due.is("spent", x.spent(1, 1), 180);
        due.is("rule", x.total(2, 0), HowHigh.NO);
        due.is("rule", x.total(-1, 0), HowHigh.NO);
        due.is("path", x.total(0, 2), HowHigh.NO);
        due.is("path", x.total(0, -1), HowHigh.NO);
        due.is("rule", x.spent(2, 0), HowHigh.NO);
        due.is("rule", x.spent(-1, 0), HowHigh.NO);
        due.is("path", x.spent(0, 2), HowHigh.NO);
        due.is("path", x.spent(0, -1), HowHigh.NO);
        x.set(3, 1);
        LawTest.law(x, "harm 0 ; cost 7 + over * 100 ; grow 0 ;");
        due.is("what broad costs", x.spent(1, 0), 107);
    }

    private static void means() {
        HowHigh x = CoastTest.coast();
        x.set(0, 5);
        x.set(1, 15);
        x.set(2, 50);
        x.rule(0, 0, 0, 0);
        due.is("above", x.mean(0, 0), 35137);
        due.is("below", x.mean(0, 1), 400);
        x.weigh(0, 1);
        due.is("above", x.mean(0, 0), 21089);
        due.is("below", x.mean(0, 1), 200);
        due.is("rule", x.mean(1, 0), HowHigh.NO);
        due.is("rule", x.mean(-1, 1), HowHigh.NO);
        due.is("part", x.mean(0, 2), HowHigh.NO);
        due.is("part", x.mean(0, -1), HowHigh.NO);
        HowHigh y = new HowHigh();
        y.rule(2, 0, 900, 0);
        due.is("no paths", y.mean(0, 0), 0);
        due.is("no paths", y.mean(0, 1), 1);
        due.is("part", y.mean(0, 2), HowHigh.NO);
        y.path(1, 0, 0, 0);
        LawTest.law(y, "harm 0 ; cost 0 ; grow 0 ;");
        due.is("nothing", y.mean(0, 0), 0);
        due.is("by 1", y.mean(0, 1), 1);
    }

    private static void rowRefusals() {
        HowHigh x = rising(0);
        x.rule(0, 0, 0, 0);
        due.is("rule", x.row(1, 0, 0, 0), -5);
        due.is("rule", x.row(-1, 0, 0, 0), -5);
        due.is("path", x.row(0, 1, 0, 0), -5);
        due.is("path", x.row(0, -1, 0, 0), -5);
        due.is("year", x.row(0, 0, 8, 0), -7);
        due.is("year", x.row(0, 0, -1, 0), -7);
        due.is("what", x.row(0, 0, 0, 4), -7);
        due.is("what", x.row(0, 0, 0, -1), -7);
        due.is("rule ahead of year", x.row(1, 0, 8, 0), -5);
        x.set(0, 16);
        due.is("last year", x.row(0, 0, 15, 2), 130);
    }

    private static void judging() {
        HowHigh x = CoastTest.coast();
        x.set(0, 4);
        x.set(1, 12);
        // The levels are 2, 3, 4, 5 and 0, 3, 6, 9; storms 10 (100), 16 (30), 25 (5).
        sheet(x, 0, 0, 0, 0, 0);
        due.is("the second path's level 3", x.judge(0, 100), 1);
        due.is("just so many", x.judge(0, 135), -1);
        due.is("at once", x.judge(0, 34), 0);
        sheet(x, 0, 0, 1, 3, 3);
        due.is("raised in time", x.judge(0, 35), -1);
        sheet(x, 0, 0, 1, 2, 4);
        due.is("not raised in time", x.judge(0, 35), 2);
        due.is("sheet", x.judge(4, 0), HowHigh.BAD);
        due.is("sheet", x.judge(-1, 0), HowHigh.BAD);
        due.is("missing", x.judge(1, 0), -11);
        due.is("m", x.judge(1, 1001), HowHigh.BAD);
        due.is("m", x.judge(1, -1), HowHigh.BAD);
        sheet(x, 0, 0, 0, 0);
        due.is("too short", x.judge(0, 0), HowHigh.BAD);
        sheet(x, 0, 0, 0, 0, 0, 0);
        due.is("too long", x.judge(0, 0), HowHigh.BAD);
        sheet(x, 0, 0, 0, 0, 21);
        due.is("too much", x.judge(0, 0), HowHigh.BAD);
        sheet(x, 0, 0, 0, 0, -1);
        due.is("too little", x.judge(0, 0), HowHigh.BAD);
        HowHigh y = new HowHigh();
        y.set(0, 2);
        y.set(1, 60);
        sheet(y, 0, 20, 20);
        due.is("no paths", y.judge(0, 0), -1);
        y.path(1, 30, 40, 40);
        y.storm(40, 1);
        due.is("high enough", y.judge(0, 0), -1);
        y.set(0, 16);
        sheet(y, 0, 20, 20, 20, 20, 20, 20, 20, 20, 20, 20, 20, 20, 20, 20, 20, 20);
        // Level 62 in year 4: 30, 16, 16; and 40 are above 99, which no wall is.
        due.is("99 at most", y.judge(0, 0), 4);
        due.is("unchanged", y.count(1), 60);
    }

    private static void drawing() {
        HowHigh x = rising(0);
        x.set(0, 3);
        x.set(1, 5);
        x.rule(0, 0, 0, 0);
        long lot = (7 + 1) * 48271L % 2147483647L;
        int floods = 0;
        long harms = 0;
        for (int y = 0; y < 3; y++) {
            lot = lot * 48271L % 2147483647L;
            int by = (int) (lot % 1000);
            int h = by < 100 ? 10 : by < 110 ? 20 : -1;
            if (h >= 0 && y + h > 5) {
                floods++;
                harms += y + h - 5;
            }
        }
        due.is("floods", x.drawn(0, 7, 0), floods);
        due.is("harms", x.drawn(0, 7, 1), harms);
        due.is("rule", x.drawn(1, 0, 0), HowHigh.NO);
        due.is("rule", x.drawn(-1, 0, 0), HowHigh.NO);
        due.is("seed", x.drawn(0, -1, 0), HowHigh.NO);
        due.is("seed", x.drawn(0, 100000, 0), HowHigh.NO);
        due.is("what", x.drawn(0, 0, 2), HowHigh.NO);
        due.is("what", x.drawn(0, 0, -1), HowHigh.NO);
        HowHigh y = new HowHigh();
        due.is("rule ahead of no paths", y.drawn(0, 0, 0), HowHigh.NO);
        y.rule(0, 0, 0, 0);
        y.storm(40, 1000);
        due.is("no paths", y.drawn(0, 0, 0), 0);
        due.is("no paths", y.drawn(0, 0, 1), 0);
        y.path(1, 0, 0, 0);
        due.is("a flood each year", y.drawn(0, 99999, 0), 8);
        y.rule(2, 0, 500, 0);
        // 25, 30 and 35 are below 40, 40 is not: three floods, by 15, 10 and 5.
        due.is("the wall in the year's end", y.drawn(1, 0, 0), 3);
        due.is("with what is behind as it begins", y.drawn(1, 0, 1), 15 * 100 + 10 * 101 + 5 * 102);
        LawTest.law(y, "harm 0 ; cost 0 ; grow 0 ;");
        due.is("floods that harm nothing", y.drawn(1, 0, 0), 3);
        due.is("floods that harm nothing", y.drawn(1, 0, 1), 0);
        y.force(0);
        y.set(1, 0);
        y.rule(5, 0, 0, 0);
        due.is("it is left", y.drawn(2, 0, 0), 0);
        y.set(1, 1);
        due.is("it is not left", y.drawn(2, 0, 0), 8);
    }
}
