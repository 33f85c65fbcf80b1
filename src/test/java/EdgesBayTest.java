/** Promises 36 to 47, each sentence that names a boundary: streets, towns on one bay, images. */
public final class EdgesBayTest {
    private static final Due due = new Due("EdgesBayTest");
    private static final int BAD = HowHigh.BAD, FULL = HowHigh.FULL, STATE = HowHigh.STATE;
    private static final long NO = HowHigh.NO;

    public static void main(String[] args) {
        p36full();
        p37more();
        p37years();
        p38left();
        p38none();
        p39full();
        p40push();
        p41above();
        p41pushes();
        p41raised();
        p41refused();
        p42less();
        p42choices();
        p43together();
        p44need();
        p44one();
        p45more();
        p45all();
        p45sheet();
        p46image();
        p47kept();
        p47since();
        due.end();
    }

    /** 8 at most: a HEIGHT (0 .. 60), WORTH (0 .. 999). */
    private static void p36full() {
        HowHigh x = new HowHigh();
        int[][] bad = {{-1, 0}, {61, 0}, {0, -1}, {0, 1000}, {61, 1000}, {Integer.MIN_VALUE, 0}, {0, Integer.MAX_VALUE}};
        for (int[] b : bad) {
            due.is("36 bad", x.street(b[0], b[1]), BAD);
        }
        due.is("36 none came", x.count(7), 0);
        due.is("36 none came", x.taken(0, 6), -11);
        for (int t = 0; t < 8; t++) {
            due.is("36 its number", x.street(t == 7 ? 60 : 0, t == 7 ? 999 : t), t);
        }
        due.is("36 a ninth", x.street(0, 0), FULL);
        for (int[] b : bad) {
            due.is("36 bad ahead of full", x.street(b[0], b[1]), BAD);
        }
        due.is("36 eight", x.count(7), 8);
        for (int t = 0; t < 8; t++) {
            due.is("36 as it was", x.taken(t, 6), t == 7 ? 999 : t);
        }
    }

    /** LEVEL 0, 1, 2, ..; storms of 10 (3 of them) and 12 (2 of them); streets of 12, 14, 0, 60. */
    private static HowHigh withStreets() {
        HowHigh x = new HowHigh();
        x.path(1, 0, 10, 0);
        x.path(1, 0, 0, 0);
        x.storm(10, 3);
        x.storm(12, 2);
        x.street(12, 1);
        x.street(14, 20);
        x.street(0, 300);
        x.street(60, 500);
        return x;
    }

    /** The first year in which FLOODS over a STREET on a PATH are more than m (0 .. 1000); -1: none. */
    private static void p37more() {
        HowHigh x = withStreets();
        due.is("37 12 is not above 12", x.when(0, 0, 0), 1);
        due.is("37 2 are more than 1", x.when(0, 0, 1), 1);
        due.is("37 2 are no more than 2", x.when(0, 0, 2), 3);
        due.is("37 5 are more than 4", x.when(0, 0, 4), 3);
        due.is("37 5 are no more than 5", x.when(0, 0, 5), -1);
        due.is("37 no more than 1000", x.when(0, 0, 1000), -1);
        due.is("37 1001", x.when(0, 0, 1001), -7);
        due.is("37 -1", x.when(0, 0, -1), -7);
        due.is("37 at once", x.when(2, 0, 0), 0);
        due.is("37 never", x.when(3, 0, 0), -1);
        due.is("37 never on the other path", x.when(0, 1, 0), -1);
        due.is("37 THE WALL does not matter", x.set(1, 60), 20);
        due.is("37 THE WALL does not matter", x.when(0, 0, 0), 1);
        HowHigh y = new HowHigh();
        y.path(1, 0, 0, 0);
        y.street(0, 0);
        y.storm(0, 999);
        due.is("37 0 is not above 0", y.when(0, 0, 0), -1);
        y.storm(1, 1);
        due.is("37 1 is", y.when(0, 0, 0), 0);
        HowHigh z = new HowHigh();
        z.path(1, 0, 0, 0);
        z.street(39, 0);
        z.storm(40, 1000);
        due.is("37 1000 are more than 999", z.when(0, 0, 999), 0);
        due.is("37 1000 are no more than 1000", z.when(0, 0, 1000), -1);
    }

    /** The first year (of YEARS). */
    private static void p37years() {
        HowHigh x = withStreets();
        int[] years = {1, 2, 3, 4, 16};
        int[] second = {-1, -1, -1, 3, 3};
        for (int i = 0; i < years.length; i++) {
            x.set(0, years[i]);
            due.is("37 in year 3", x.when(1, 0, 0), second[i]);
            due.is("37 in year 1", x.when(0, 0, 0), years[i] > 1 ? 1 : -1);
        }
        due.is("37 no such street", x.when(4, 0, 0), -5);
        due.is("37 no such path", x.when(0, 2, 0), -5);
        due.is("37 no such street, no such m", x.when(-1, 0, -1), -5);
        due.is("37 no such path, no such m", x.when(0, -1, 1001), -5);
    }

    /** STREETS (bits) that are left so by the end of a year (of YEARS), WORTH of all others together. */
    private static void p38left() {
        HowHigh x = withStreets();
        int[] bits = {4, 5, 5, 7, 7, 7, 7, 7};
        int[] worths = {521, 520, 520, 500, 500, 500, 500, 500};
        for (int y = 0; y < 8; y++) {
            due.is("38 left by the end of " + y, x.away(0, y, 0, 0), bits[y]);
            due.is("38 all others by the end of " + y, x.away(0, y, 0, 1), worths[y]);
        }
        due.is("38 so many alone", x.away(0, 2, 2, 0), 4);
        due.is("38 so many alone", x.away(0, 3, 2, 0), 5);
        due.is("38 none for 1000", x.away(0, 7, 1000, 0), 0);
        due.is("38 all for 1000", x.away(0, 7, 1000, 1), 821);
        due.is("38 a year behind YEARS", x.away(0, 8, 0, 0), -7);
        x.set(0, 1);
        due.is("38 a year behind YEARS", x.away(0, 1, 0, 0), -7);
        x.set(0, 16);
        due.is("38 the last year", x.away(0, 15, 0, 0), 7);
        for (int t = 4; t < 8; t++) {
            x.street(0, 999);
        }
        due.is("38 the last bit", x.away(0, 0, 0, 0), 4 + 240);
        due.is("38 eight of 999", eight().away(0, 0, 0, 1), 7992);
        due.is("38 none of eight", eight().away(0, 0, 0, 0), 0);
    }

    private static HowHigh eight() {
        HowHigh x = new HowHigh();
        x.path(1, 0, 0, 0);
        for (int t = 0; t < 8; t++) {
            x.street(60, 999);
        }
        return x;
    }

    private static void p38none() {
        HowHigh x = new HowHigh();
        due.is("38 no path", x.away(0, 0, 0, 0), -5);
        x.path(1, 0, 0, 0);
        due.is("38 no street", x.away(0, 0, 0, 0), 0);
        due.is("38 no street", x.away(0, 0, 0, 1), 0);
        due.is("38 no such m", x.away(0, 0, 1001, 0), -7);
        due.is("38 no such m", x.away(0, 0, -1, 0), -7);
        due.is("38 no such what", x.away(0, 0, 0, 2), -7);
        due.is("38 no such what", x.away(0, 0, 0, -1), -7);
        due.is("38 no such year", x.away(0, -1, 0, 0), -7);
        due.is("38 no such path, no such year", x.away(1, 8, 1001, 2), -5);
    }

    /** 3 at most: each a wall (0 .. 60) and what is behind (0 .. 999). */
    private static void p39full() {
        HowHigh x = new HowHigh();
        x.path(1, 30, 0, 0);
        x.storm(40, 1);
        int[][] bad = {{-1, 0}, {61, 0}, {0, -1}, {0, 1000}, {61, 1000}, {Integer.MAX_VALUE, 0}, {0, Integer.MIN_VALUE}};
        for (int[] b : bad) {
            due.is("39 bad", x.town(b[0], b[1]), BAD);
        }
        due.is("39 none came", x.count(8), 0);
        due.is("39 the most", x.town(60, 999), 0);
        due.is("39 the least", x.town(0, 0), 1);
        due.is("39 a third", x.town(60, 1), 2);
        due.is("39 a fourth", x.town(0, 0), FULL);
        for (int[] b : bad) {
            due.is("39 bad ahead of full", x.town(b[0], b[1]), BAD);
        }
        due.is("39 three", x.count(8), 3);
        due.is("39 no fourth", x.pays(3, 0, 0, 1, 0), NO);
        due.is("39 as it was", x.pays(0, 0, 0, 1, 0), 9990);
        due.is("39 as it was", x.pays(1, 0, 0, 1, 0), 0);
        due.is("39 as it was", x.pays(2, 0, 0, 1, 0), 10);
    }

    /** PUSH (0 .. 9; 1 at first). */
    private static void p40push() {
        HowHigh x = new HowHigh();
        x.path(1, 0, 0, 0);
        x.storm(40, 1);
        x.town(10, 1);
        x.town(50, 1);
        due.is("40 at first", x.pays(0, 0, 0, 1, 0), 31);
        due.is("40 too much", x.push(10), BAD);
        due.is("40 too little", x.push(-1), BAD);
        due.is("40 it is as before", x.pays(0, 0, 0, 1, 0), 31);
        due.is("40 what it was", x.push(9), 1);
        due.is("40 the most", x.pays(0, 0, 0, 1, 0), 39);
        due.is("40 what it was", x.push(0), 9);
        due.is("40 the least", x.pays(0, 0, 0, 1, 0), 30);
        due.is("40 what it was", x.push(0), 0);
    }

    /** Higher for each other TOWN whose wall then is more than 5 above its own. */
    private static void p41above() {
        for (int other = 20; other <= 30; other++) {
            HowHigh x = new HowHigh();
            x.path(1, 0, 0, 0);
            x.storm(40, 1);
            x.push(9);
            x.town(20, 1);
            x.town(other, 1);
            due.is("41 " + other + " above 20", x.pays(0, 0, 0, 1, 0), 20 + (other > 25 ? 9 : 0));
            due.is("41 20 above " + other, x.pays(1, 0, 0, 1, 0), 40 - other);
            due.is("41 " + other + " and 1 above 20", x.pays(0, 0, 0, 1, 2), 20 + (other + 1 > 25 ? 9 : 0));
            due.is("41 both and 1", x.pays(0, 0, 0, 1, 3) - 1000 * x.cost(1, 20, 0, 1), 19 + (other > 25 ? 9 : 0));
            due.is("41 the own and 1", x.pays(0, 0, 0, 1, 1) - 1000 * x.cost(1, 20, 0, 1), 19 + (other > 26 ? 9 : 0));
        }
    }

    /** For each other TOWN. */
    private static void p41pushes() {
        HowHigh x = new HowHigh();
        x.path(1, 2, 0, 0);
        x.storm(40, 1);
        x.push(4);
        x.town(20, 1);
        due.is("41 no other", x.pays(0, 0, 0, 30, 0), 22);
        x.town(26, 1);
        due.is("41 one other", x.pays(0, 0, 0, 30, 0), 26);
        x.town(32, 1);
        due.is("41 two others", x.pays(0, 0, 0, 30, 0), 30);
        due.is("41 one above the second", x.pays(1, 0, 0, 30, 0), 20);
        due.is("41 none above the third", x.pays(2, 0, 0, 30, 0), 10);
        due.is("41 a lower one raised by 30", x.pays(2, 0, 0, 30, 1), 14);
        due.is("41 both lower ones raised", x.pays(2, 0, 0, 30, 3), 18);
        LawTest.law(x, "harm level;cost 0;grow 0;");
        due.is("41 harm sees the higher water", x.pays(0, 0, 0, 30, 0), 10);
        LawTest.law(x, "harm 7;cost 0;grow 0;");
        HowHigh y = new HowHigh();
        y.path(1, 0, 0, 0);
        y.storm(20, 3);
        y.town(20, 1);
        y.town(30, 1);
        due.is("41 21 is above 20", y.pays(0, 0, 0, 1, 0), 3);
        y.push(0);
        due.is("41 20 is not", y.pays(0, 0, 0, 1, 0), 0);
    }

    /** With its wall then, and, if it raises it, 1000 times COST (of its wall as told). */
    private static void p41raised() {
        HowHigh x = new HowHigh();
        x.path(1, 0, 0, 0);
        x.path(1, 30, 40, 40);
        x.storm(40, 1);
        x.town(10, 6);
        x.town(60, 999);
        x.set(0, 16);
        due.is("41 it raises by 1", x.pays(0, 0, 0, 1, 1), 1000 * (20 + 10) + 6 * 30);
        due.is("41 it raises by 30", x.pays(0, 0, 0, 30, 1), 1000 * (20 + 300) + 6 * (0 + 1));
        due.is("41 the other raises", x.pays(0, 0, 0, 30, 2), 6 * 31);
        due.is("41 up to 90", x.pays(1, 1, 15, 30, 2), 1000 * (20 + 1800) + 9999);
        x.set(3, 1);
        LawTest.law(x, "harm wall+year;cost over*100+behind*10+year+level;grow 0;");
        due.is("41 the wall then, the year", x.pays(0, 0, 7, 2, 1), 1000 * (100 + 60 + 7) + 12 + 7);
        due.is("41 not raised", x.pays(0, 0, 7, 2, 0), 10 + 7);
        x.set(2, 0);
        x.set(1, 0);
        due.is("41 BEHIND and THE WALL do not matter", x.pays(0, 0, 7, 2, 0), 17);
        LawTest.law(x, "harm behind;cost behind;grow 999;");
        due.is("41 what is behind a town does not grow", x.pays(0, 0, 15, 2, 1), 6000 + 6);
    }

    private static void p41refused() {
        HowHigh x = new HowHigh();
        x.path(1, 0, 0, 0);
        due.is("41 no town", x.pays(0, 0, 0, 1, 0), NO);
        for (int towns = 1; towns <= 3; towns++) {
            x.town(0, 0);
            int all = (1 << towns) - 1;
            due.is("41 all of them", x.pays(towns - 1, 0, 0, 30, all), 20000);
            due.is("41 more than all", x.pays(0, 0, 0, 30, all + 1), NO);
            due.is("41 less than none", x.pays(0, 0, 0, 30, -1), NO);
            due.is("41 no such town", x.pays(towns, 0, 0, 30, 0), NO);
        }
        due.is("41 by 0", x.pays(0, 0, 0, 0, 0), NO);
        due.is("41 by 31", x.pays(0, 0, 0, 31, 0), NO);
        x.set(0, 1);
        due.is("41 a year behind YEARS", x.pays(0, 0, 1, 1, 0), NO);
        due.is("41 the last year", x.pays(0, 0, 0, 1, 0), 0);
        due.is("41 no such path", x.pays(0, 1, 0, 1, 0), NO);
    }

    /** Choices of who raises in which no TOWN would pay less, did it alone choose otherwise. */
    private static void p42less() {
        // A raise by 10 ends a harm of 100 by 100; what it costs decides.
        int[] costs = {9, 10, 11};
        int[] rests = {2, 3, 1};
        for (int i = 0; i < costs.length; i++) {
            HowHigh x = new HowHigh();
            x.path(1, 0, 0, 0);
            x.storm(10, 100);
            x.town(0, 0);
            LawTest.law(x, "harm 100;cost " + costs[i] + ";grow 0;");
            due.is("42 costs " + costs[i], x.rests(0, 0, 10), rests[i]);
            due.is("42 by one less it does not help", x.rests(0, 0, 9), 1);
        }
    }

    private static void p42choices() {
        HowHigh x = new HowHigh();
        x.path(1, 0, 0, 0);
        x.path(1, 30, 0, 0);
        x.storm(10, 100);
        x.town(10, 0);
        x.town(10, 0);
        LawTest.law(x, "harm 100;cost 9;grow 0;");
        // At level 0 who is lower by 6 is flooded by the push of 1: both raise, or none.
        due.is("42 both or none", x.rests(0, 0, 6), 1 + 8);
        due.is("42 5 do not push", x.rests(0, 0, 5), 1);
        due.is("42 on the other path nobody", x.rests(1, 0, 6), 1);
        x.push(0);
        due.is("42 no push", x.rests(0, 0, 6), 1);
        x.town(10, 0);
        x.push(9);
        due.is("42 all or none of three", x.rests(0, 0, 6), 1 + 128);
        LawTest.law(x, "harm 0;cost 0;grow 0;");
        due.is("42 all choices", x.rests(0, 0, 30), 255);
        due.is("42 by 31", x.rests(0, 0, 31), BAD);
        due.is("42 by 0", x.rests(0, 0, 0), BAD);
        due.is("42 no such year", x.rests(0, 8, 1), BAD);
        due.is("42 no such path", x.rests(2, 0, 1), BAD);
    }

    /** The choice (bits) by which all TOWNS together pay least, of like ones the least. */
    private static void p43together() {
        HowHigh x = new HowHigh();
        x.path(1, 0, 0, 0);
        x.storm(10, 100);
        x.town(0, 1);
        LawTest.law(x, "harm 100;cost 10;grow 0;");
        due.is("43 as dear as none", x.together(0, 0, 10), 0);
        LawTest.law(x, "harm 100;cost 9;grow 0;");
        due.is("43 cheaper", x.together(0, 0, 10), 1);
        due.is("43 no help by 9", x.together(0, 0, 9), 0);
        x.town(0, 1);
        due.is("43 both", x.together(0, 0, 10), 3);
        x.town(0, 1);
        due.is("43 all", x.together(0, 0, 10), 7);
        LawTest.law(x, "harm 100*(0<level);cost 9;grow 0;");
        due.is("43 none pushes if none raises", x.together(0, 0, 10), 0);
        HowHigh y = new HowHigh();
        y.path(1, 0, 0, 0);
        y.storm(10, 100);
        y.push(0);
        for (int t = 0; t < 3; t++) {
            y.town(t == 0 ? 20 : 0, 1);
        }
        LawTest.law(y, "harm 100;cost 9;grow 0;");
        due.is("43 the last two", y.together(0, 0, 10), 6);
        due.is("43 by 31", y.together(0, 0, 31), BAD);
        due.is("43 by 0", y.together(0, 0, 0), BAD);
        due.is("43 no such year", y.together(0, -1, 1), BAD);
        due.is("43 no such path", y.together(1, 0, 1), BAD);
    }

    /** NEED: the least raising (20 at most) by which FLOODS over its wall are no more than so many (at LEVEL alone). */
    private static void p44need() {
        HowHigh x = new HowHigh();
        x.path(1, 0, 10, 0);
        x.storm(20, 7);
        x.storm(15, 3);
        x.town(0, 0);
        x.town(60, 0);
        x.push(9);
        LawTest.law(x, "harm 0;cost up;grow 0;");
        due.is("44 20", x.joint(1, 0, 0, 0), 20);
        due.is("44 no more than 6", x.joint(1, 0, 0, 6), 20);
        due.is("44 no more than 7", x.joint(1, 0, 0, 7), 15);
        due.is("44 no more than 10", x.joint(1, 0, 0, 10), 0);
        due.is("44 20 at most", x.joint(1, 0, 1, 0), 20);
        due.is("44 no push", x.joint(1, 0, 3, 7), 18);
        due.is("44 not needed", x.joint(2, 0, 7, 0), 0);
        due.is("44 no more than 1000", x.joint(1, 0, 0, 1000), 0);
        due.is("44 no more than 1001", x.joint(1, 0, 0, 1001), BAD);
        due.is("44 no more than -1", x.joint(1, 0, 0, -1), BAD);
        due.is("44 none of them", x.joint(0, 0, 0, 0), BAD);
        due.is("44 more than all", x.joint(4, 0, 0, 0), BAD);
        due.is("44 no such year", x.joint(1, 0, 8, 0), BAD);
        due.is("44 no such path", x.joint(1, 1, 0, 0), BAD);
    }

    /** The greatest NEED of theirs the lowest wall of theirs, all that is behind together. */
    private static void p44one() {
        HowHigh x = new HowHigh();
        x.path(1, 0, 0, 0);
        x.storm(30, 7);
        x.town(25, 999);
        x.town(13, 1);
        x.town(60, 998);
        LawTest.law(x, "harm 0;cost up*100+wall;grow 0;");
        int[] want = {525, 1713, 1713, 0, 525, 1713, 1713};
        for (int set = 1; set <= 7; set++) {
            due.is("44 one wall for " + set, x.joint(set, 0, 0, 0), want[set - 1]);
        }
        LawTest.law(x, "harm 0;cost behind;grow 0;");
        int[] behind = {999, 1, 1000, 0, 1997, 999, 1998};
        for (int set = 1; set <= 7; set++) {
            due.is("44 all behind " + set, x.joint(set, 0, 0, 0), behind[set - 1]);
        }
        LawTest.law(x, "harm 0;cost over*1000+year*10+level+up;grow 0;");
        due.is("44 not broad", x.joint(1, 0, 7, 0), 75);
        x.set(3, 1);
        due.is("44 broad", x.joint(1, 0, 7, 0), 1075);
    }

    /** The least set of TOWNS (bits) whose parts together are more than ONE WALL for them. */
    private static void p45more() {
        HowHigh x = bay();
        due.is("45 just ONE WALL", joined(x, 0, 10, 0, 0), -1);
        due.is("45 one more", joined(x, 0, 11, 0, 0), 1);
        due.is("45 the second, one more", joined(x, 0, 10, 11, 0), 2);
        due.is("45 the third, one more", joined(x, 0, 0, 0, 11), 4);
        due.is("45 two, just ONE WALL", joined(x, 0, 6, 4, 0), -1);
        due.is("45 two, one more", joined(x, 0, 6, 5, 0), 3);
        due.is("45 the first and the third", joined(x, 0, 5, 0, 6), 5);
        due.is("45 the second and the third", joined(x, 0, 0, 5, 6), 6);
        due.is("45 the first two ahead of the third", joined(x, 0, 6, 5, 11), 3);
        due.is("45 all, just ONE WALL", joined(x, 0, 4, 3, 3), -1);
        due.is("45 all, one more", joined(x, 0, 4, 4, 3), 7);
        due.is("45 the most", joined(x, 0, 99999, 99999, 99999), 1);
        due.is("45 where no wall is needed one part is more", joined(x, 1000, 0, 0, 1), 4);
        due.is("45 where no wall is needed none is more, nor less", joined(x, 1000, 0, 0, 0), -1);
    }

    /** All of them, if no other is and theirs are less than ONE WALL for all; -1: neither. */
    private static void p45all() {
        HowHigh x = bay();
        due.is("45 nothing at all", joined(x, 0, 0, 0, 0), 7);
        due.is("45 one less", joined(x, 0, 3, 3, 3), 7);
        due.is("45 just so many", joined(x, 0, 4, 3, 3), -1);
        due.is("45 just so many, of the last one", joined(x, 0, 0, 0, 10), -1);
        due.is("45 one less, of the last one", joined(x, 0, 0, 0, 9), 7);
        HowHigh y = new HowHigh();
        y.path(1, 0, 0, 0);
        y.storm(10, 1);
        y.town(0, 0);
        LawTest.law(y, "harm 0;cost 10;grow 0;");
        int[] parts = {9, 10, 11, 0};
        int[] want = {1, -1, 1, 1};
        for (int i = 0; i < parts.length; i++) {
            RulesTest.sheet(y, 0, parts[i]);
            due.is("45 one town, " + parts[i], y.join(0, 0, 0, 0), want[i]);
        }
    }

    /** Three towns that need a wall; one for any of them costs 10. */
    private static HowHigh bay() {
        HowHigh x = new HowHigh();
        x.path(1, 0, 0, 0);
        x.storm(10, 1);
        for (int t = 0; t < 3; t++) {
            x.town(0, 0);
        }
        LawTest.law(x, "harm 0;cost 10;grow 0;");
        return x;
    }

    private static int joined(HowHigh x, int m, int... parts) {
        RulesTest.sheet(x, 0, parts);
        return x.join(0, 0, 0, m);
    }

    /** A part (0 .. 99999) for each TOWN (just as many numbers). */
    private static void p45sheet() {
        HowHigh x = new HowHigh();
        x.path(1, 0, 0, 0);
        due.is("45 missing", x.join(0, 0, 0, 0), -11);
        for (int towns = 1; towns <= 3; towns++) {
            x.town(60, 0);
            for (int n : new int[] {0, 1, 2, 3, 4, 40}) {
                x.sheet(0, 2, n);
                due.is("45 " + n + " numbers for " + towns, x.join(0, 0, 0, 0), n == towns ? -1 : BAD);
            }
            x.sheet(0, 2, towns);
            x.cell(0, towns - 1, 99999);
            due.is("45 99999", x.join(0, 0, 0, 0), 1 << towns - 1);
            x.cell(0, towns - 1, 100000);
            due.is("45 100000", x.join(0, 0, 0, 0), BAD);
            x.cell(0, towns - 1, -1);
            due.is("45 -1", x.join(0, 0, 0, 0), BAD);
        }
        x.sheet(0, 1, 3);
        x.cell(0, 2, 32767);
        due.is("45 by shorts", x.join(0, 0, 0, 0), 4);
        due.is("45 no such sheet", x.join(4, 0, 0, 0), BAD);
        due.is("45 missing", x.join(1, 0, 0, 0), -11);
        due.is("45 missing, no such path", x.join(1, 1, 0, 0), BAD);
        due.is("45 missing, no such year", x.join(1, 0, 8, 0), BAD);
        due.is("45 missing, no such m", x.join(1, 0, 0, 1001), BAD);
    }

    private static void p46image() {
        HowHigh x = new HowHigh();
        due.is("46 no paths", x.image(), 0);
        due.is("47 no paths", x.back(), 0);
        for (int p = 1; p <= 4; p++) {
            x.path(p, 0, 0, 0);
            due.is("46 how many", x.image(), p);
        }
        due.is("46 not refused when all is full", Scene.of(Scene::full).image(), 4);
    }

    /** YEARS, THE WALL, BEHIND, BROAD, WEIGHTS, PUSH, THE LAW. */
    private static void p47kept() {
        HowHigh x = new HowHigh();
        due.is("47 there is none", x.back(), STATE);
        due.is("47 there is none", x.count(0), 8);
        x.path(3, 0, 0, 0);
        x.path(4, 0, 0, 0);
        LawTest.read(x, "harm 1;cost 1;grow 1;");
        int[][] sets = {{1, 0, 0, 0}, {16, 60, 999, 1}};
        for (int[] set : sets) {
            keep(x, set);
            x.image();
            keep(x, new int[] {5, 6, 7, 1 - set[3]});
            x.weigh(0, 50);
            x.weigh(1, 60);
            x.push(7);
            due.is("47 THE LAW", x.force(set[3]), 1 - set[3]);
            x.force(1 - set[3]);
            due.is("47 two paths", x.back(), 2);
            for (int what = 0; what < 4; what++) {
                due.is("47 what " + what, x.count(what), set[what]);
            }
            due.is("47 THE LAW", x.count(10), set[3]);
            due.is("47 its cost", x.cost(1, 1, 0, 0), set[3] == 1 ? 1 : 21);
            due.is("47 WEIGHT", x.weigh(0, 8), set[3] == 1 ? 99 : 1);
            due.is("47 WEIGHT", x.weigh(1, 9), set[3] == 1 ? 98 : 2);
            due.is("47 PUSH", x.push(5), set[3] == 1 ? 9 : 0);
            x.set(0, 9);
            due.is("47 once more", x.back(), 2);
            due.is("47 once more", x.count(0), set[0]);
        }
    }

    private static void keep(HowHigh x, int[] set) {
        for (int what = 0; what < 4; what++) {
            x.set(what, set[what]);
        }
        x.weigh(0, set[3] == 1 ? 99 : 1);
        x.weigh(1, set[3] == 1 ? 98 : 2);
        x.push(set[3] == 1 ? 9 : 0);
        x.force(set[3]);
    }

    /** PATHS that came since stay as they are; what else is there stays, too. */
    private static void p47since() {
        HowHigh x = new HowHigh();
        x.path(3, 1, 0, 0);
        x.image();
        x.path(4, 2, 0, 0);
        x.path(5, 3, 0, 0);
        x.path(6, 4, 0, 0);
        x.storm(10, 7);
        LawTest.read(x, "harm 1;cost 1;grow 1;");
        x.rule(1, 2, 3, 0);
        x.street(30, 9);
        x.town(20, 9);
        x.feed(0x2020202020L, 5);
        x.sheet(2, 1, 6);
        x.weigh(3, 77);
        due.is("47 how many there are", x.back(), 4);
        int[] want = {8, 20, 100, 0, 4, 1, 1, 1, 1, 2, 0, 5};
        for (int what = 0; what < want.length; what++) {
            due.is("47 count of " + what, x.count(what), want[what]);
        }
        int[] weights = {3, 4, 5, 77};
        for (int p = 0; p < 4; p++) {
            due.is("47 as it is", x.level(p, 0), p + 1);
            due.is("47 as it is", x.weigh(p, 1), weights[p]);
        }
        due.is("47 the storm", x.flood(0, 0, 0), 7);
        due.is("47 the rule", x.ruleTold(0, 1), 2);
        due.is("47 the street", x.taken(0, 6), 9);
        due.is("47 the sheet", x.cell(2, 5, 1), 1);
        due.is("47 the sheet", x.cell(2, 6, 1), -12);
        due.is("47 the tape", x.text(), -105);
        // A law that came since is no law any more, but a text still.
        x.force(1);
        due.is("47 again", x.back(), 4);
        due.is("47 again", x.count(10), 0);
        due.is("47 still a text", x.force(1), 0);
    }
}
