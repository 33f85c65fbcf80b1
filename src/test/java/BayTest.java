/** Promises 36 to 47: streets, towns on one bay, images. */
public final class BayTest {
    private static final Due due = new Due("BayTest");

    public static void main(String[] args) {
        streets();
        whenLeft();
        away();
        towns();
        pushing();
        paying();
        resting();
        choosing();
        oneWall();
        joining();
        withoutTowns();
        images();
        due.end();
    }

    private static void streets() {
        HowHigh x = new HowHigh();
        due.is("height", x.street(-1, 0), HowHigh.BAD);
        due.is("height", x.street(61, 0), HowHigh.BAD);
        due.is("worth", x.street(0, -1), HowHigh.BAD);
        due.is("worth", x.street(0, 1000), HowHigh.BAD);
        due.is("the most", x.street(60, 999), 0);
        for (int t = 1; t < 8; t++) {
            due.is("street", x.street(0, 0), t);
        }
        due.is("full", x.street(0, 0), HowHigh.FULL);
        due.is("bad ahead of full", x.street(61, 0), HowHigh.BAD);
        due.is("eight", x.count(7), 8);
    }

    /** Levels 0, 1, 2, .. and 3 for ever; storms of 10 (100) and 12 (50); streets of 13, 11, 30, 9. */
    private static HowHigh withStreets() {
        HowHigh x = new HowHigh();
        x.path(1, 0, 10, 0);
        x.path(1, 3, 0, 0);
        x.storm(10, 100);
        x.storm(12, 50);
        x.street(13, 1);
        x.street(11, 20);
        x.street(30, 300);
        x.street(9, 99);
        return x;
    }

    private static void whenLeft() {
        HowHigh x = withStreets();
        due.is("over 13 from year 2 on", x.when(0, 0, 0), 2);
        due.is("just so many", x.when(0, 0, 50), 4);
        due.is("never", x.when(0, 0, 150), -1);
        due.is("at once", x.when(1, 0, 0), 0);
        due.is("one less", x.when(1, 0, 49), 0);
        due.is("more", x.when(1, 0, 50), 2);
        due.is("at once", x.when(3, 0, 149), 0);
        due.is("never", x.when(2, 0, 0), -1);
        due.is("the other path", x.when(0, 1, 50), -1);
        due.is("the other path", x.when(0, 1, 49), 0);
        x.set(0, 2);
        due.is("in the years alone", x.when(0, 0, 0), -1);
        due.is("street", x.when(4, 0, 0), -5);
        due.is("street", x.when(-1, 0, 0), -5);
        due.is("path", x.when(0, 2, 0), -5);
        due.is("path", x.when(0, -1, 0), -5);
        due.is("m", x.when(0, 0, 1001), -7);
        due.is("m", x.when(0, 0, -1), -7);
        due.is("street ahead of m", x.when(8, 0, 1001), -5);
    }

    private static void away() {
        HowHigh x = withStreets();
        due.is("in year 1", x.away(0, 1, 0, 0), 2 + 8);
        due.is("the others' worth", x.away(0, 1, 0, 1), 301);
        due.is("in year 2", x.away(0, 2, 0, 0), 1 + 2 + 8);
        due.is("the others' worth", x.away(0, 2, 0, 1), 300);
        due.is("in year 3", x.away(0, 3, 50, 0), 2 + 8);
        due.is("none", x.away(0, 7, 1000, 0), 0);
        due.is("all", x.away(0, 7, 1000, 1), 420);
        due.is("path", x.away(2, 0, 0, 0), -5);
        due.is("path", x.away(-1, 0, 0, 0), -5);
        due.is("year", x.away(0, 8, 0, 0), -7);
        due.is("year", x.away(0, -1, 0, 0), -7);
        due.is("m", x.away(0, 0, 1001, 0), -7);
        due.is("m", x.away(0, 0, -1, 0), -7);
        due.is("what", x.away(0, 0, 0, 2), -7);
        due.is("what", x.away(0, 0, 0, -1), -7);
        due.is("path ahead of all", x.away(2, 8, 1001, 2), -5);
        HowHigh y = new HowHigh();
        y.path(1, 0, 0, 0);
        due.is("no streets", y.away(0, 0, 0, 0), 0);
        due.is("no streets", y.away(0, 0, 0, 1), 0);
    }

    private static void towns() {
        HowHigh x = new HowHigh();
        due.is("wall", x.town(-1, 0), HowHigh.BAD);
        due.is("wall", x.town(61, 0), HowHigh.BAD);
        due.is("behind", x.town(0, -1), HowHigh.BAD);
        due.is("behind", x.town(0, 1000), HowHigh.BAD);
        due.is("first", x.town(60, 999), 0);
        due.is("second", x.town(0, 0), 1);
        due.is("third", x.town(1, 1), 2);
        due.is("full", x.town(0, 0), HowHigh.FULL);
        due.is("bad ahead of full", x.town(61, 0), HowHigh.BAD);
    }

    private static void pushing() {
        HowHigh x = new HowHigh();
        due.is("at first", x.push(9), 1);
        due.is("what it was", x.push(0), 9);
        due.is("bad", x.push(10), HowHigh.BAD);
        due.is("bad", x.push(-1), HowHigh.BAD);
        due.is("what it was", x.push(0), 0);
    }

    /** Towns with walls 10, 15, 25 at a sea of level 0 with a storm of 20. */
    private static HowHigh bay() {
        HowHigh x = new HowHigh();
        x.path(1, 0, 0, 0);
        x.storm(20, 100);
        x.town(10, 50);
        x.town(15, 80);
        x.town(25, 999);
        x.push(3);
        return x;
    }

    private static void paying() {
        HowHigh x = bay();
        due.is("one pushes it", x.pays(0, 0, 0, 8, 0), 100L * 13 * 50);
        due.is("5 above pushes none", x.pays(1, 0, 0, 8, 0), 100L * 8 * 80);
        due.is("the highest", x.pays(2, 0, 0, 8, 0), 0);
        due.is("both push it", x.pays(0, 0, 0, 8, 2), 100L * 16 * 50);
        due.is("two pay as the third, too", x.pays(0, 0, 0, 8, 6), 100L * 16 * 50);
        due.is("it raises", x.pays(0, 0, 0, 8, 1), 1000L * (20 + 80) + 100L * 5 * 50);
        due.is("raised together", x.pays(1, 0, 0, 1, 7), 1000L * (20 + 15) + 100L * 7 * 80);
        x.push(0);
        due.is("no push", x.pays(0, 0, 0, 8, 0), 100L * 10 * 50);
        x.push(9);
        LawTest.law(x, "harm level * 100 + wall ; cost wall + behind * 10 + over * 1000 + year ; grow 0 ;");
        x.set(3, 1);
        due.is("the pushed level, the wall then", x.pays(0, 0, 7, 2, 1),
            1000L * (10 + 500 + 1000 + 7) + 100L * (900 + 12));
        due.is("the last", x.pays(2, 0, 7, 30, 7), 1000L * 9999);
        for (int[] b : new int[][] {
            {3, 0, 0, 8, 0}, {-1, 0, 0, 8, 0}, {0, 1, 0, 8, 0}, {0, -1, 0, 8, 0}, {0, 0, 8, 8, 0}, {0, 0, -1, 8, 0},
            {0, 0, 0, 0, 0}, {0, 0, 0, 31, 0}, {0, 0, 0, -1, 0}, {0, 0, 0, 8, 8}, {0, 0, 0, 8, -1},
        }) {
            due.is("none such", x.pays(b[0], b[1], b[2], b[3], b[4]), HowHigh.NO);
        }
    }

    private static void resting() {
        HowHigh x = bay();
        due.is("none raises", x.rests(0, 0, 8), 1);
        LawTest.law(x, "harm over * behind ; cost 0 ; grow 0 ;");
        int want = 0;
        for (int set = 0; set < 8; set++) {
            boolean rests = true;
            for (int t = 0; t < 3; t++) {
                rests &= x.pays(t, 0, 0, 6, set ^ 1 << t) >= x.pays(t, 0, 0, 6, set);
            }
            want |= rests ? 1 << set : 0;
        }
        due.is("as what they pay says", x.rests(0, 0, 6), want);
        LawTest.law(x, "harm 0 ; cost 0 ; grow 0 ;");
        due.is("all", x.rests(0, 0, 8), 255);
        refused(x);
    }

    private static void refused(HowHigh x) {
        for (int[] b : new int[][] {
            {1, 0, 8}, {-1, 0, 8}, {0, 8, 8}, {0, -1, 8}, {0, 0, 0}, {0, 0, 31}, {0, 0, -1},
        }) {
            due.is("bad", x.rests(b[0], b[1], b[2]), HowHigh.BAD);
            due.is("bad", x.together(b[0], b[1], b[2]), HowHigh.BAD);
        }
    }

    private static void choosing() {
        HowHigh x = bay();
        due.is("none", x.together(0, 0, 8), 0);
        LawTest.law(x, "harm over * behind ; cost 1 ; grow 0 ;");
        // By 10 they are 20, 25, 35: 0 and 1 raise; 2 need not, and would push both more.
        due.is("two", x.together(0, 0, 10), 3);
        x.push(0);
        due.is("of like ones the least", x.together(0, 0, 30), 3);
        LawTest.law(x, "harm 0 ; cost 0 ; grow 0 ;");
        due.is("all alike", x.together(0, 0, 10), 0);
        refused(x);
    }

    private static void oneWall() {
        HowHigh x = bay();
        due.is("first", x.joint(1, 0, 0, 50), 20 + 10 * 10);
        due.is("second", x.joint(2, 0, 0, 50), 20 + 5 * 15);
        due.is("both", x.joint(3, 0, 0, 50), 20 + 10 * 10);
        due.is("needs none", x.joint(4, 0, 0, 50), 0);
        due.is("just so many", x.joint(7, 0, 0, 100), 0);
        due.is("one less", x.joint(7, 0, 0, 99), 120);
        LawTest.law(x, "harm 0 ; cost behind + over * 5000 + year ; grow 0 ;");
        x.set(3, 1);
        due.is("all behind together", x.joint(7, 0, 3, 0), 1129 + 5000 + 3);
        due.is("of some", x.joint(6, 0, 3, 0), 1079 + 5000 + 3);
        x.path(1, 30, 0, 0);
        LawTest.law(x, "harm 0 ; cost up ; grow 0 ;");
        due.is("20 at most", x.joint(1, 1, 0, 0), 20);
        due.is("the sea alone", x.joint(6, 0, 0, 0), 5);
        for (int[] b : new int[][] {
            {0, 0, 0, 50}, {8, 0, 0, 50}, {-1, 0, 0, 50}, {1, 2, 0, 50}, {1, -1, 0, 50}, {1, 0, 8, 50},
            {1, 0, -1, 50}, {1, 0, 0, 1001}, {1, 0, 0, -1},
        }) {
            due.is("bad", x.joint(b[0], b[1], b[2], b[3]), HowHigh.BAD);
        }
    }

    private static void joining() {
        HowHigh x = bay();
        int[][] parts = {
            {100, 100, 100, 2}, {0, 0, 0, 7}, {99999, 0, 0, 1}, {120, 95, 0, 3}, {120, 0, 0, -1}, {0, 95, 25, -1},
            {0, 95, 24, 7}, {0, 95, 26, 4}, {0, 0, 1, 4}, {119, 0, 0, 7},
        };
        int[] want = {2, 7, 1, 3, -1, 4, 4, 4, 4, 7};
        for (int i = 0; i < parts.length; i++) {
            RulesTest.sheet(x, 0, parts[i][0], parts[i][1], parts[i][2]);
            due.is("parts " + i, x.join(0, 0, 0, 50), want[i]);
        }
        RulesTest.sheet(x, 0, 0, 0, 100000);
        due.is("a part", x.join(0, 0, 0, 50), HowHigh.BAD);
        RulesTest.sheet(x, 0, 0, 0, -1);
        due.is("a part", x.join(0, 0, 0, 50), HowHigh.BAD);
        RulesTest.sheet(x, 0, 0, 0);
        due.is("too few", x.join(0, 0, 0, 50), HowHigh.BAD);
        RulesTest.sheet(x, 0, 0, 0, 0, 0);
        due.is("too many", x.join(0, 0, 0, 50), HowHigh.BAD);
        x.path(1, 12, 0, 0);
        x.path(1, 30, 10, 0);
        RulesTest.sheet(x, 0, 0, 0, 0);
        due.is("the path and the year are its own", x.joint(7, 2, 5, 50), 20 + 20 * 10);
        RulesTest.sheet(x, 0, 120, 95, 0);
        due.is("more water", x.join(0, 1, 0, 50), 7);
        due.is("less water", x.join(0, 0, 0, 50), 3);
        due.is("missing", x.join(3, 0, 0, 50), -11);
        due.is("sheet", x.join(4, 0, 0, 50), HowHigh.BAD);
        due.is("sheet", x.join(-1, 0, 0, 50), HowHigh.BAD);
        due.is("path ahead of missing", x.join(3, 3, 0, 50), HowHigh.BAD);
        due.is("path", x.join(3, -1, 0, 50), HowHigh.BAD);
        due.is("year", x.join(3, 0, 8, 50), HowHigh.BAD);
        due.is("year", x.join(3, 0, -1, 50), HowHigh.BAD);
        due.is("m", x.join(3, 0, 0, 1001), HowHigh.BAD);
        due.is("m", x.join(3, 0, 0, -1), HowHigh.BAD);
    }

    private static void withoutTowns() {
        HowHigh x = new HowHigh();
        x.path(1, 0, 0, 0);
        x.sheet(0, 0, 0);
        due.is("nobody raises", x.rests(0, 0, 1), 1);
        due.is("nobody raises", x.together(0, 0, 1), 0);
        due.is("no town", x.pays(0, 0, 0, 1, 0), HowHigh.NO);
        due.is("no wall", x.joint(0, 0, 0, 0), HowHigh.BAD);
        due.is("no wall", x.joint(1, 0, 0, 0), HowHigh.BAD);
        due.is("neither", x.join(0, 0, 0, 0), -1);
    }

    private static void images() {
        HowHigh x = CoastTest.coast();
        due.is("none yet", x.back(), HowHigh.STATE);
        due.is("two paths", x.image(), 2);
        LawTest.law(x, "harm 1 ; cost 1 ; grow 1 ;");
        for (int what = 0; what < 4; what++) {
            x.set(what, 1);
        }
        x.weigh(0, 50);
        x.weigh(1, 60);
        x.path(7, 0, 0, 0);
        x.weigh(2, 8);
        x.push(5);
        x.storm(1, 1);
        x.rule(0, 0, 0, 0);
        x.street(1, 1);
        x.town(1, 1);
        x.feed(97, 1);
        x.sheet(0, 0, 4);
        due.is("three paths", x.back(), 3);
        int[] want = {8, 20, 100, 0, 3, 4, 1, 1, 1, 2, 0, 1};
        for (int what = 0; what < want.length; what++) {
            due.is("count " + what, x.count(what), want[what]);
        }
        due.is("weight", x.weigh(0, 9), 3);
        due.is("weight", x.weigh(1, 9), 1);
        due.is("one that came since", x.weigh(2, 9), 8);
        due.is("push", x.push(6), 1);
        due.is("the law", x.cost(1, 20, 0, 0), 40);
        due.is("the sheet", x.cell(0, 3, 1), 1);
        due.is("again", x.back(), 3);
        due.is("weight", x.weigh(0, 9), 3);
        due.is("push", x.push(6), 1);
        x.force(1);
        x.set(0, 3);
        due.is("another", x.image(), 3);
        x.force(0);
        x.set(0, 5);
        x.weigh(2, 1);
        due.is("of that", x.back(), 3);
        due.is("the law", x.count(10), 1);
        due.is("years", x.count(0), 3);
        due.is("weight", x.weigh(2, 1), 9);
        due.is("no paths", new HowHigh().image(), 0);
    }
}
