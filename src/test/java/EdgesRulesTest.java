/** Promises 14, 15 and 19 to 24, each sentence that names a boundary: rules, and what they come to. */
public final class EdgesRulesTest {
    private static final Due due = new Due("EdgesRulesTest");
    private static final int BAD = HowHigh.BAD, FULL = HowHigh.FULL;
    private static final long NO = HowHigh.NO;

    public static void main(String[] args) {
        p14rest();
        p14sheet();
        p14full();
        p15told();
        p19law();
        p19step();
        p19wait();
        p19back();
        p19rule();
        p19highestWall();
        p19growth();
        p20left();
        p21terms();
        p22leaving();
        p22years();
        p23more();
        p23sheet();
        p23highestWall();
        p24seeds();
        p24path();
        p24storm();
        p24flood();
        p24none();
        due.end();
    }

    /** 100 times STEP (0 .. 9), and NEAR (0 .. 20). */
    private static void p14rest() {
        HowHigh x = new HowHigh();
        for (int rest : new int[] {21, 99, 121, 199, 821, 899, 921, 1000, 1020, -1, -79, -80, -99, -100, -900}) {
            due.is("14 rest " + rest, x.rule(0, 0, rest, 0), BAD);
        }
        due.is("14 none came", x.count(6), 0);
        int[] rests = {0, 20, 100, 120, 900, 920};
        for (int r = 0; r < rests.length; r++) {
            due.is("14 rest " + rests[r], x.rule(r, 1000, rests[r], tells(x)), r);
            due.is("14 its STEP", x.ruleTold(r, 2), rests[r] / 100);
            due.is("14 its NEAR", x.ruleTold(r, 3), rests[r] % 100);
        }
    }

    private static int tells(HowHigh x) {
        x.sheet(3, 2, 16);
        return 3;
    }

    /** Of KIND 4 by a SHEET of 16 numbers 0 .. 20; of others the SHEET does not matter. */
    private static void p14sheet() {
        HowHigh x = new HowHigh();
        due.is("14 missing", x.rule(4, 0, 0, 0), -11);
        for (int n : new int[] {0, 1, 15, 17, 40}) {
            x.sheet(0, 2, n);
            due.is("14 of " + n, x.rule(4, 0, 0, 0), BAD);
        }
        for (int sort = 0; sort < 3; sort++) {
            for (int at = 0; at < 16; at += 5) {
                x.sheet(0, sort, 16);
                x.cell(0, at, 21);
                due.is("14 a 21", x.rule(4, 0, 0, 0), BAD);
                x.cell(0, at, -1);
                due.is("14 a -1", x.rule(4, 0, 0, 0), BAD);
            }
        }
        due.is("14 none came", x.count(6), 0);
        for (int s : new int[] {-1, 4, Integer.MIN_VALUE, 1, 0}) {
            due.is("14 the SHEET " + s + " does not matter", x.rule(5, 0, 0, s) >= 0 ? 1 : 0, 1);
        }
        for (int sort = 0; sort < 3; sort++) {
            x.sheet(0, sort, 16);
            x.cell(0, 0, 20);
            x.cell(0, 15, 20);
            due.is("14 of sort " + sort, x.rule(4, 0, 0, 0), 5 + sort);
        }
    }

    /** 8 at most. */
    private static void p14full() {
        HowHigh x = new HowHigh();
        for (int r = 0; r < 8; r++) {
            due.is("14 its number", x.rule(2, r, 100 * r, 0), r);
        }
        tells(x);
        due.is("14 a ninth", x.rule(0, 0, 0, 0), FULL);
        due.is("14 a ninth that is told", x.rule(4, 0, 0, 3), FULL);
        due.is("14 by no sheet", x.rule(4, 0, 0, 4), BAD);
        due.is("14 by a missing one", x.rule(4, 0, 0, 2), -11);
        x.sheet(3, 2, 17);
        due.is("14 by one too long", x.rule(4, 0, 0, 3), BAD);
        due.is("14 eight", x.count(6), 8);
        for (int r = 0; r < 8; r++) {
            due.is("14 as it was", x.ruleTold(r, 1), r);
            due.is("14 as it was", x.ruleTold(r, 2), r);
        }
        due.is("14 no ninth", x.ruleTold(8, 0), -5);
    }

    private static void p15told() {
        HowHigh x = new HowHigh();
        RulesTest.sheet(x, 0, 1, 2, 3, 4, 5, 6, 7, 8, 9, 10, 11, 12, 13, 14, 15, 16);
        x.rule(4, 1000, 920, 0);
        x.rule(5, 1, 1, 0);
        x.cell(0, 15, 9);
        x.sheet(0, -1, 0);
        due.is("15 KIND", x.ruleTold(0, 0), 4);
        due.is("15 MORE", x.ruleTold(0, 1), 1000);
        due.is("15 STEP", x.ruleTold(0, 2), 9);
        due.is("15 NEAR", x.ruleTold(0, 3), 20);
        for (int y = 0; y < 16; y++) {
            due.is("15 year " + y + ", whatever the sheet is now", x.ruleTold(0, 4 + y), y + 1);
            due.is("15 of another KIND", x.ruleTold(1, 4 + y), 0);
        }
        x.set(0, 1);
        due.is("15 a year behind YEARS", x.ruleTold(0, 19), 16);
        for (int what : new int[] {20, -1, Integer.MAX_VALUE, Integer.MIN_VALUE, Integer.MIN_VALUE + 4}) {
            due.is("15 what " + what, x.ruleTold(0, what), -7);
            due.is("15 no such RULE", x.ruleTold(2, what), -5);
        }
    }

    /** Level 0 for ever. */
    private static HowHigh calm() {
        HowHigh x = new HowHigh();
        x.path(1, 0, 0, 0);
        return x;
    }

    /** 1 LAW: the least (20 at most) by which FLOODS over it are no more than MORE. */
    private static void p19law() {
        HowHigh x = calm();
        x.storm(40, 10);
        x.storm(21, 90);
        x.set(0, 2);
        x.rule(1, 9, 0, 0);
        x.rule(1, 10, 0, 0);
        x.rule(1, 99, 0, 0);
        x.rule(1, 100, 0, 0);
        rows(x, 2, 1, new int[][] {{20, 18}, {19, 0}, {19, 0}, {0, 0}});
        x.set(1, 20);
        rows(x, 20, 1, new int[][] {{20, 0}, {1, 0}, {1, 0}, {0, 0}});
        x.set(1, 21);
        rows(x, 21, 1, new int[][] {{19, 0}, {0, 0}, {0, 0}, {0, 0}});
        x.set(1, 1);
        rows(x, 1, 1, new int[][] {{20, 19}, {20, 0}, {20, 0}, {0, 0}});
        x.set(1, 0);
        rows(x, 0, 1, new int[][] {{20, 20}, {20, 1}, {20, 1}, {0, 0}});
        x.set(1, 39);
        rows(x, 39, 0, new int[][] {{40, 40}, {39, 39}, {39, 39}, {39, 39}});
    }

    private static void rows(HowHigh x, int wall, int what, int[][] want) {
        x.set(1, wall);
        for (int r = 0; r < want.length; r++) {
            row("from wall " + wall, x, r, what, want[r]);
        }
    }

    private static void row(String call, HowHigh x, int r, int what, int... want) {
        for (int y = 0; y < want.length; y++) {
            due.is("22 " + call + ", rule " + r + ", what " + what + " in year " + y, x.row(r, 0, y, what), want[y]);
        }
    }

    /** 2 STEP: STEP, if y is a multiple of MORE (of 1, if MORE is 0), else 0. */
    private static void p19step() {
        HowHigh x = calm();
        x.set(0, 16);
        x.set(1, 0);
        int[] mores = {0, 1, 2, 15, 16, 1000};
        for (int r = 0; r < mores.length; r++) {
            x.rule(2, mores[r], 320, 0);
            for (int y = 0; y < 16; y++) {
                due.is("19 MORE " + mores[r], x.row(r, 0, y, 1), mores[r] == 0 || y % mores[r] == 0 ? 3 : 0);
            }
        }
        x.rule(2, 1, 20, 0);
        due.is("19 STEP 0", x.row(6, 0, 15, 0), 0);
        due.is("19 nothing is spent", x.spent(6, 0), 0);
    }

    /** 3 WAIT: as a STEP, if LEVEL and NEAR together are h or more, else 0. */
    private static void p19wait() {
        HowHigh x = new HowHigh();
        x.path(1, 10, 10, 0);
        x.set(0, 4);
        x.set(1, 30);
        x.rule(3, 0, 120, 0);
        row("just h", x, 0, 1, 1, 1, 1, 1);
        x.set(1, 31);
        row("just h in year 1", x, 0, 1, 0, 1, 1, 1);
        x.set(1, 33);
        row("just h in year 3", x, 0, 1, 0, 0, 0, 1);
        x.set(1, 34);
        row("never", x, 0, 1, 0, 0, 0, 0);
        x.rule(3, 3, 120, 0);
        x.set(1, 31);
        row("not in a year that is no multiple", x, 1, 1, 0, 0, 0, 1);
        x.rule(3, 0, 100, 0);
        x.set(1, 12);
        row("NEAR 0", x, 2, 1, 0, 0, 1, 1);
        row("a wait never leaves", x, 2, 3, 0, 0, 0, 0);
    }

    /** 5 BACK: as a WAIT; it leaves all as a year begins, if LEVEL is h or more (others never do). */
    private static void p19back() {
        HowHigh x = new HowHigh();
        x.path(1, 10, 10, 0);
        x.set(0, 4);
        x.rule(5, 1, 20, 0);
        x.rule(5, 1, 120, 0);
        x.rule(5, 1, 100, 0);
        x.set(1, 10);
        row("LEVEL is just h", x, 0, 3, 1, 1, 1, 1);
        row("it does not raise then", x, 1, 1, 0, 0, 0, 0);
        x.set(1, 12);
        row("just h in year 2", x, 0, 3, 0, 0, 1, 1);
        row("raised ahead of that", x, 1, 0, 13, 14, 15, 16);
        row("not near", x, 2, 3, 0, 0, 1, 1);
        x.set(1, 11);
        row("raised in year 0, from 11 to 12", x, 1, 0, 12, 13, 14, 15);
        row("not raised, left in year 1", x, 2, 3, 0, 1, 1, 1);
        x.set(1, 14);
        row("h is above all levels", x, 0, 3, 0, 0, 0, 0);
        for (int kind = 0; kind < 5; kind++) {
            HowHigh y = new HowHigh();
            y.path(1, 30, 40, 40);
            y.set(1, 0);
            y.rule(kind, 1000, 0, tells(y));
            row("no other leaves", y, 0, 3, 0, 0, 0, 0, 0, 0, 0, 0);
        }
    }

    /** 0 RULE: 0. 4 TOLD: what is told for y. */
    private static void p19rule() {
        HowHigh x = calm();
        x.storm(40, 100);
        x.set(1, 0);
        x.set(0, 16);
        x.rule(0, 0, 920, 0);
        RulesTest.sheet(x, 0, 20, 0, 1, 2, 3, 4, 5, 6, 7, 8, 9, 10, 4, 0, 0, 20);
        x.rule(4, 3, 920, 0);
        int wall = 0;
        for (int y = 0; y < 16; y++) {
            int told = y == 0 || y == 15 ? 20 : y == 12 ? 4 : y > 11 ? 0 : y - 1;
            wall += told;
            due.is("19 a RULE never raises", x.row(0, 0, y, 1), 0);
            due.is("19 what is told", x.row(1, 0, y, 1), told);
            due.is("19 what is told", x.row(1, 0, y, 0), wall);
        }
        due.is("19 just 99", wall, 99);
    }

    /** The wall is raised (by 99 less it at most), COST is PAID. */
    private static void p19highestWall() {
        HowHigh x = calm();
        x.set(1, 60);
        x.set(0, 4);
        LawTest.law(x, "harm 0;cost 100+up;grow 0;");
        RulesTest.sheet(x, 0, 20, 18, 0, 0, 0, 0, 0, 0, 0, 0, 0, 0, 0, 0, 0, 0);
        int[] third = {0, 1, 2, 20};
        for (int r = 0; r < 4; r++) {
            x.cell(0, 2, third[r]);
            x.cell(0, 3, third[r]);
            x.rule(4, 0, 0, 0);
            int up = Math.min(1, third[r]);
            row("98 raised by " + third[r], x, r, 1, 20, 18, up, 0);
            row("98 raised by " + third[r], x, r, 0, 80, 98, 98 + up, 98 + up);
            due.is("20 what is raised is PAID", x.spent(r, 0), 120 + 118 + (up == 0 ? 0 : 101));
        }
    }

    /** HARM with the wall as it is now and what was behind as the year began; then that grows. */
    private static void p19growth() {
        HowHigh x = calm();
        x.set(0, 2);
        x.set(1, 10);
        x.set(2, 5);
        x.storm(12, 1);
        LawTest.law(x, "harm behind*100+wall;cost behind;grow 3;");
        x.rule(2, 1, 100, 0);
        due.is("19 the wall is 11 in year 0, 12 in 1", x.total(0, 0), 1000 * (5 + 8) + 511);
        x.set(0, 1);
        due.is("19 one year", x.total(0, 0), 5511);
        x.set(1, 11);
        due.is("19 just 12", x.total(0, 0), 5000);
        due.is("19 no such", x.total(1, 0), NO);
        due.is("19 no such", x.total(0, 1), NO);
    }

    /** If it leaves all now, what is behind is PAID, and is 0 from then on. */
    private static void p20left() {
        HowHigh x = new HowHigh();
        x.path(1, 10, 10, 0);
        x.storm(40, 1000);
        x.set(0, 4);
        x.set(2, 999);
        x.rule(5, 0, 0, 0);
        LawTest.law(x, "harm 1;cost 50;grow 999;");
        int[] behinds = {999, 1998, 2997, 3996};
        for (int left = 0; left < 4; left++) {
            x.set(1, 10 + left);
            due.is("20 left in year " + left, x.spent(0, 0), behinds[left]);
            due.is("20 harm till then", x.total(0, 0), 1000L * behinds[left] + 1000L * left);
            for (int y = 0; y < 4; y++) {
                due.is("22 what is behind", x.row(0, 0, y, 2), y <= left ? behinds[y] : 0);
                due.is("22 left", x.row(0, 0, y, 3), y >= left ? 1 : 0);
            }
        }
        x.set(1, 14);
        due.is("20 never left", x.spent(0, 0), 0);
        due.is("20 never left", x.total(0, 0), 4000);
        x.set(1, 0);
        x.set(2, 0);
        due.is("20 left, nothing behind", x.spent(0, 0), 0);
        due.is("20 nothing is harmed nor grows", x.total(0, 0), 0);
        due.is("22 left, nothing behind", x.row(0, 0, 3, 3), 1);
    }

    /** MEAN: of all PATHS, by WEIGHTS, TOTAL by 1000 (without PATHS 0 by 1). */
    private static void p21terms() {
        HowHigh x = new HowHigh();
        x.rule(0, 0, 0, 0);
        mean("without paths", x, 0, 1);
        due.is("21 no such part", x.mean(0, 2), NO);
        due.is("21 no such rule", x.mean(1, 0), NO);
        x.set(0, 1);
        x.storm(10, 1);
        LawTest.law(x, "harm level;cost 0;grow 0;");
        x.set(1, 0);
        x.path(1, 0, 0, 0);
        mean("nothing", x, 0, 1);
        x.path(99, 1, 0, 0);
        mean("99 by 100000", x, 99, 100000);
        x.weigh(1, 1);
        mean("1 by 2000", x, 1, 2000);
        x.path(2, 5, 0, 0);
        mean("11 by 4000", x, 11, 4000);
        x.path(4, 30, 0, 0);
        mean("131 by 8000", x, 131, 8000);
        LawTest.law(x, "harm 1000;cost 0;grow 0;");
        mean("8000 by 8000", x, 1, 1);
    }

    private static void mean(String call, HowHigh x, long above, long below) {
        due.is("21 " + call + ", above", x.mean(0, 0), above);
        due.is("21 " + call + ", below", x.mean(0, 1), below);
    }

    /** What is behind as it begins (ahead of leaving); whether all is left by its end. */
    private static void p22leaving() {
        HowHigh x = new HowHigh();
        x.path(1, 10, 10, 0);
        x.path(1, 0, 0, 0);
        x.set(0, 3);
        x.set(1, 11);
        x.rule(5, 1, 0, 0);
        row("the wall stays", x, 0, 0, 11, 11, 11);
        row("nothing raised", x, 0, 1, 0, 0, 0);
        row("behind ahead of leaving", x, 0, 2, 100, 101, 0);
        row("left", x, 0, 3, 0, 1, 1);
        due.is("22 not on the other path", x.row(0, 1, 2, 3), 0);
        due.is("22 not on the other path", x.row(0, 1, 2, 2), 102);
    }

    /** In a year (of YEARS). */
    private static void p22years() {
        HowHigh x = calm();
        x.rule(0, 0, 0, 0);
        for (int years : new int[] {1, 2, 15, 16}) {
            x.set(0, years);
            for (int what = 0; what < 4; what++) {
                due.holds("22 the last year", x.row(0, 0, years - 1, what) >= 0);
                due.is("22 one behind it", x.row(0, 0, years, what), -7);
                due.is("22 one ahead of 0", x.row(0, 0, -1, what), -7);
            }
            due.is("22 no such what", x.row(0, 0, 0, 4), -7);
            due.is("22 no such what", x.row(0, 0, 0, -1), -7);
            due.is("22 no such path, no such year", x.row(0, 1, years, 4), -5);
            due.is("22 no such rule, no such year", x.row(1, 0, years, 4), -5);
        }
    }

    /** The first year in which FLOODS over the wall in its end are more than m on any PATH; -1: none. */
    private static void p23more() {
        HowHigh x = calm();
        x.path(1, 0, 0, 10);
        x.storm(5, 1);
        x.storm(6, 2);
        x.set(0, 3);
        x.set(1, 5);
        RulesTest.sheet(x, 0, 0, 0, 0);
        // On the second path LEVEL is 0, 1, 2: 6 is above 5 from year 0 on, 5 from year 1 on.
        due.is("23 2 of them in year 0", x.judge(0, 1), 0);
        due.is("23 2 are no more than 2", x.judge(0, 2), 1);
        due.is("23 3 are no more than 3", x.judge(0, 3), -1);
        due.is("23 more than none", x.judge(0, 0), 0);
        due.is("23 no more than 1000", x.judge(0, 1000), -1);
        due.is("23 m", x.judge(0, 1001), BAD);
        due.is("23 m", x.judge(0, -1), BAD);
        RulesTest.sheet(x, 0, 1, 0, 2);
        due.is("23 raised in year 0, and too late", x.judge(0, 0), 1);
        RulesTest.sheet(x, 0, 1, 1, 0);
        due.is("23 not any more in year 2", x.judge(0, 0), 2);
        RulesTest.sheet(x, 0, 1, 1, 1);
        due.is("23 raised in each year's end", x.judge(0, 0), -1);
        HowHigh y = new HowHigh();
        y.storm(40, 1000);
        y.sheet(0, 0, 8);
        due.is("23 no path", y.judge(0, 0), -1);
    }

    /** A SHEET tells raisings (0 .. 20) for all YEARS (just as many numbers). */
    private static void p23sheet() {
        HowHigh x = calm();
        for (int years : new int[] {1, 8, 16}) {
            x.set(0, years);
            x.sheet(0, 0, years - 1);
            due.is("23 one too few", x.judge(0, 0), BAD);
            x.sheet(0, 0, years + 1);
            due.is("23 one too many", x.judge(0, 0), BAD);
            for (int sort = 0; sort < 3; sort++) {
                x.sheet(0, sort, years);
                due.is("23 just as many", x.judge(0, 0), -1);
                x.cell(0, years - 1, 20);
                due.is("23 a 20", x.judge(0, 0), -1);
                x.cell(0, years - 1, 21);
                due.is("23 a 21", x.judge(0, 0), BAD);
                x.cell(0, years - 1, -1);
                due.is("23 a -1", x.judge(0, 0), BAD);
            }
        }
        due.is("23 missing", x.judge(1, 0), -11);
        due.is("23 m ahead of missing", x.judge(1, 1001), BAD);
        due.is("23 no such sheet", x.judge(4, 0), BAD);
        due.is("23 no rule came", x.count(6), 0);
        due.is("23 the wall stays", x.count(1), 20);
    }

    /** The wall in its end (99 at most). */
    private static void p23highestWall() {
        HowHigh x = new HowHigh();
        x.path(1, 29, 40, 0);
        x.storm(40, 1);
        x.set(1, 60);
        // LEVEL and HEIGHT are 69, 73, 77, 81, 85, 89, 93, 97, 101 in years 0 to 8.
        x.set(0, 9);
        RulesTest.sheet(x, 0, 20, 20, 20, 20, 20, 20, 20, 20, 20);
        due.is("23 101 is above 99", x.judge(0, 0), 8);
        x.set(0, 8);
        RulesTest.sheet(x, 0, 20, 17, 0, 0, 0, 0, 0, 0);
        due.is("23 97 is not above 97", x.judge(0, 0), -1);
        RulesTest.sheet(x, 0, 20, 16, 0, 0, 0, 0, 0, 0);
        due.is("23 97 is above 96", x.judge(0, 0), 7);
        HowHigh y = new HowHigh();
        y.path(1, 30, 40, 0);
        y.storm(29, 1);
        y.set(1, 60);
        y.set(0, 12);
        // LEVEL and HEIGHT are 59 and 4 more in each year: 99 in year 10, 103 in year 11.
        RulesTest.sheet(y, 0, 20, 20, 20, 20, 20, 20, 20, 20, 20, 20, 20, 20);
        due.is("23 99 is not above 99", y.judge(0, 0), 11);
    }

    /** DRAWN by a SEED (0 .. 99999): LOTS. */
    private static void p24seeds() {
        HowHigh x = calm();
        x.set(0, 16);
        x.set(1, 0);
        x.rule(0, 0, 0, 0);
        x.storm(10, 500);
        for (int seed : new int[] {0, 1, 44487, 44488, 50000, 99998, 99999}) {
            long lot = (seed + 1L) * 48271 % 2147483647;
            int floods = 0;
            for (int y = 0; y < 16; y++) {
                lot = lot * 48271 % 2147483647;
                floods += lot % 1000 < 500 ? 1 : 0;
            }
            due.is("24 seed " + seed, x.drawn(0, seed, 0), floods);
        }
        due.is("24 no such seed", x.drawn(0, 100000, 0), NO);
        due.is("24 no such seed", x.drawn(0, -1, 0), NO);
        due.is("24 no such seed", x.drawn(0, Integer.MAX_VALUE, 0), NO);
        due.is("24 no such seed", x.drawn(0, Integer.MIN_VALUE, 1), NO);
    }

    /** A seed whose lot of a number behind the first one leaves so much by modulo. */
    private static int seedBy(int further, int modulo, int left) {
        for (int seed = 0; seed < 100000; seed++) {
            long lot = (seed + 1L) * 48271 % 2147483647;
            for (int i = 0; i < further; i++) {
                lot = lot * 48271 % 2147483647;
            }
            if (lot % modulo == left) {
                return seed;
            }
        }
        throw new IllegalStateException("no seed leaves " + left + " by " + modulo);
    }

    /** The first PATH whose WEIGHT, with those of lesser numbers, is above it. */
    private static void p24path() {
        HowHigh x = new HowHigh();
        x.path(3, 0, 0, 0);
        x.path(1, 1, 0, 0);
        x.path(96, 2, 0, 0);
        x.path(7, 3, 0, 0);
        x.storm(10, 1000);
        x.set(0, 1);
        x.set(1, 0);
        x.rule(0, 0, 0, 0);
        LawTest.law(x, "harm 1+level;cost 0;grow 0;");
        int[] lefts = {0, 2, 3, 4, 99, 100, 106};
        int[] paths = {0, 0, 1, 2, 2, 3, 3};
        for (int i = 0; i < lefts.length; i++) {
            due.is("24 " + lefts[i] + " of 107", x.drawn(0, seedBy(0, 107, lefts[i]), 1), 1 + paths[i]);
        }
    }

    /** The STORM: likewise by how many there are (none, if all together are no more). */
    private static void p24storm() {
        HowHigh x = calm();
        x.set(0, 1);
        x.set(1, 0);
        x.rule(0, 0, 0, 0);
        LawTest.law(x, "harm over;cost 0;grow 0;");
        x.storm(1, 5);
        x.storm(2, 1);
        x.storm(3, 94);
        int[] lefts = {0, 4, 5, 6, 99, 100, 999};
        int[] heights = {1, 1, 2, 3, 3, 0, 0};
        for (int i = 0; i < lefts.length; i++) {
            int seed = seedBy(1, 1000, lefts[i]);
            due.is("24 " + lefts[i] + " of 1000 harms", x.drawn(0, seed, 1), heights[i]);
            due.is("24 " + lefts[i] + " of 1000", x.drawn(0, seed, 0), heights[i] == 0 ? 0 : 1);
        }
        x.storm(4, 900);
        due.is("24 the last of 1000", x.drawn(0, seedBy(1, 1000, 999), 1), 4);
        due.is("24 the first behind", x.drawn(0, seedBy(1, 1000, 100), 1), 4);
    }

    /** It is a FLOOD, if LEVEL and HEIGHT are above the wall in the year's end, and it isn't left by then. */
    private static void p24flood() {
        HowHigh x = new HowHigh();
        x.path(1, 5, 0, 0);
        x.storm(10, 1000);
        x.set(0, 3);
        x.rule(0, 0, 0, 0);
        x.rule(2, 0, 100, 0);
        x.rule(5, 0, 0, 0);
        x.set(1, 15);
        due.is("24 15 is not above 15", x.drawn(0, 7, 0), 0);
        x.set(1, 14);
        due.is("24 15 is above 14", x.drawn(0, 7, 0), 3);
        due.is("24 by 1", x.drawn(0, 7, 1), 100 + 101 + 102);
        due.is("24 the wall in the year's end", x.drawn(1, 7, 0), 0);
        x.set(1, 13);
        due.is("24 14 in the first year's end", x.drawn(1, 7, 0), 1);
        due.is("24 with what is behind as it begins", x.drawn(1, 7, 1), 100);
        x.set(1, 5);
        due.is("24 left at once", x.drawn(2, 7, 0), 0);
        due.is("24 left at once", x.drawn(2, 7, 1), 0);
        x.set(1, 6);
        due.is("24 not left", x.drawn(2, 7, 0), 3);
        HowHigh y = new HowHigh();
        y.path(1, 5, 10, 0);
        y.storm(10, 1000);
        y.set(0, 4);
        y.set(1, 7);
        y.rule(5, 0, 0, 0);
        due.is("24 left by the end of year 2", y.drawn(0, 7, 0), 2);
        due.is("24 harm till then", y.drawn(0, 7, 1), 8 * 100 + 9 * 101);
        LawTest.law(y, "harm over*behind-9999*(year=1);cost 0;grow 0;");
        due.is("24 no less than 0", y.drawn(0, 7, 1), 800);
        LawTest.law(y, "harm 9000+over*behind;cost 0;grow 0;");
        due.is("24 9999 at most, each", y.drawn(0, 7, 1), 9800 + 9900);
        LawTest.law(y, "harm 9900+over*behind;cost 0;grow 0;");
        due.is("24 9999 at most, each", y.drawn(0, 7, 1), 2 * 9999);
    }

    /** 0 without PATHS; what 0 how many, 1 what they harm together. */
    private static void p24none() {
        HowHigh x = new HowHigh();
        due.is("24 no rule", x.drawn(0, 0, 0), NO);
        x.rule(0, 0, 0, 0);
        x.storm(40, 1000);
        due.is("24 no paths", x.drawn(0, 0, 0), 0);
        due.is("24 no paths", x.drawn(0, 99999, 1), 0);
        due.is("24 no paths, no such seed", x.drawn(0, 100000, 1), NO);
        due.is("24 no paths, no such what", x.drawn(0, 0, 2), NO);
        due.is("24 no paths, no such rule", x.drawn(1, 0, 0), NO);
        HowHigh y = calm();
        y.rule(0, 0, 0, 0);
        due.is("24 no storms", y.drawn(0, 0, 0), 0);
        due.is("24 no storms", y.drawn(0, 0, 1), 0);
    }
}
