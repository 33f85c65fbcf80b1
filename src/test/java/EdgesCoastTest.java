/** Promises 1 to 13, each sentence that names a boundary: up to it, over it, and what other calls answer then. */
public final class EdgesCoastTest {
    private static final Due due = new Due("EdgesCoastTest");
    private static final int BAD = HowHigh.BAD, STATE = HowHigh.STATE, FULL = HowHigh.FULL, NONE = HowHigh.NONE;

    public static void main(String[] args) {
        p1firstLaw();
        p1nothingYet();
        p2set();
        p3count();
        p4later();
        p4full();
        p5weigh();
        p6together();
        p6full();
        p7cut();
        p7bend();
        p8above();
        p9eachStorm();
        p9bounds();
        p9seen();
        p10nothingRaised();
        p10bounds();
        p11years();
        p11bounds();
        p12bits();
        p13terms();
        due.end();
    }

    /** TEXT 0, at first, and THE LAW: harm over * behind ; cost 20 + up * wall ; grow year < 9. */
    private static void p1firstLaw() {
        HowHigh x = new HowHigh();
        x.path(1, 0, 0, 0);
        x.storm(40, 1000);
        due.is("1 harm by 1 over", x.harm(0, 0, 39, 7), 7000);
        due.is("1 harm by 40 over", x.harm(0, 15, 0, 7), 280000);
        due.is("1 cost of 1", x.cost(1, 0, 0, 0), 20);
        due.is("1 cost", x.cost(3, 7, 15, 9999), 41);
        due.is("1 year 8 grows", x.behindThen(9), 109);
        due.is("1 year 9 does not", x.behindThen(10), 109);
        due.is("1 the law", x.count(10), 0);
        due.is("1 the only text", x.force(1), BAD);
    }

    private static void p1nothingYet() {
        HowHigh x = new HowHigh();
        due.is("1 no path", x.level(0, 0), -5);
        due.is("1 no path", x.weigh(0, 1), NONE);
        due.is("1 no rule", x.mean(0, 0), HowHigh.NO);
        due.is("1 no rule", x.taken(8, 0), -11);
        due.is("1 no rule", x.sure(1), -1);
        due.is("1 no street", x.taken(0, 6), -11);
        due.is("1 no text on the tape", x.text(), -100);
        due.is("1 no image", x.back(), STATE);
        for (int s = 0; s < 4; s++) {
            due.is("1 no sheet", x.cell(s, 0, 0), -11);
        }
        due.is("1 PUSH", x.push(0), 1);
        x.path(1, 0, 0, 0);
        due.is("1 no storm", x.flood(0, 0, 0), 0);
        due.is("1 no storm", x.harm(0, 0, 0, 9999), 0);
        due.is("1 no street", x.when(0, 0, 0), -5);
        due.is("1 no town", x.pays(0, 0, 0, 1, 0), HowHigh.NO);
    }

    private static void p2set() {
        HowHigh x = new HowHigh();
        int[] was = {8, 20, 100, 0};
        int[] least = {1, 0, 0, 0};
        int[] most = {16, 60, 999, 1};
        for (int what = 0; what < 4; what++) {
            due.is("2 too much", x.set(what, most[what] + 1), BAD);
            due.is("2 too little", x.set(what, least[what] - 1), BAD);
            due.is("2 it is as before", x.count(what), was[what]);
            due.is("2 the most", x.set(what, most[what]), was[what]);
            due.is("2 the most again", x.set(what, most[what]), most[what]);
            due.is("2 it is the most", x.count(what), most[what]);
            due.is("2 the least", x.set(what, least[what]), most[what]);
            due.is("2 it is the least", x.count(what), least[what]);
        }
        // What is set is what the others use.
        x.set(2, 999);
        due.is("2 BEHIND", x.behindThen(0), 999);
        x.path(1, 0, 0, 0);
        x.rule(0, 0, 0, 0);
        due.is("2 one year alone", x.row(0, 0, 1, 0), -7);
        x.set(0, 16);
        x.set(1, 60);
        due.is("2 sixteen", x.row(0, 0, 15, 0), 60);
    }

    private static void p3count() {
        HowHigh x = Scene.of(Scene::full);
        int[] full = {8, 20, 100, 0, 4, 6, 8, 8, 3, 6, 0, 160};
        counts("3 full", x, full);
        due.is("3 one path more", x.path(1, 1, 1, 1), FULL);
        due.is("3 one storm more", x.storm(1, 1), FULL);
        due.is("3 one rule more", x.rule(0, 0, 0, 0), FULL);
        due.is("3 one street more", x.street(1, 1), FULL);
        due.is("3 one town more", x.town(1, 1), FULL);
        due.is("3 one text more", x.text(), FULL);
        due.is("3 one byte more", x.feed(32, 1), FULL);
        counts("3 still full", x, full);
        due.is("3 behind the last", x.count(12), BAD);
        due.is("3 ahead of the first", x.count(-1), BAD);
        x.force(5);
        due.is("3 THE LAW", x.count(10), 5);
    }

    private static void counts(String call, HowHigh x, int... want) {
        for (int what = 0; what < want.length; what++) {
            due.is(call + ", count of " + what, x.count(what), want[what]);
        }
    }

    /** 100 times BEND (a year, 0 .. 15), and FASTER (0 .. 40). */
    private static void p4later() {
        HowHigh x = new HowHigh();
        for (int later : new int[] {41, 99, 141, 199, 1441, 1499, 1541, 1599, 1600, -1, -60, -99, -100, -1500}) {
            due.is("4 later " + later, x.path(1, 0, 0, later), BAD);
        }
        due.is("4 none came", x.count(4), 0);
        due.is("4 none came", x.level(0, 0), -5);
        due.is("4 FASTER 40 from year 0 on", x.path(1, 0, 0, 40), 0);
        due.is("4 BEND 14, FASTER 40", x.path(1, 0, 0, 1440), 1);
        due.is("4 BEND 15", x.path(1, 0, 0, 1540), 2);
        due.is("4 FASTER 0", x.path(1, 0, 0, 100), 3);
        int[] last = {60, 4, 0, 0};
        int[] second = {4, 0, 0, 0};
        for (int p = 0; p < 4; p++) {
            due.is("4 the last year of " + p, x.level(p, 15), last[p]);
            due.is("4 the second year of " + p, x.level(p, 1), second[p]);
        }
    }

    /** PATHS are numbered from 0 on, 4 at most. */
    private static void p4full() {
        HowHigh x = new HowHigh();
        for (int p = 0; p < 4; p++) {
            due.is("4 its number", x.path(1 + p, 7 * p, p, p), p);
        }
        due.is("4 a fifth", x.path(1, 0, 0, 0), FULL);
        due.is("4 a fifth that is bad", x.path(100, 0, 0, 0), BAD);
        due.is("4 four", x.count(4), 4);
        due.is("4 no fifth", x.level(4, 0), -5);
        for (int p = 0; p < 4; p++) {
            due.is("4 as it was", x.level(p, 0), 7 * p);
            due.is("4 as it was", x.weigh(p, 1), 1 + p);
        }
    }

    private static void p5weigh() {
        HowHigh x = new HowHigh();
        x.path(7, 0, 0, 0);
        x.path(8, 0, 0, 0);
        due.is("5 too little", x.weigh(0, 0), BAD);
        due.is("5 too much", x.weigh(0, 100), BAD);
        due.is("5 no such", x.weigh(2, 1), NONE);
        due.is("5 as it was", x.think(0, 0, 0, 0), 7);
        due.is("5 as it was", x.think(0, 0, 0, 1), 15);
        due.is("5 the most", x.weigh(0, 99), 7);
        due.is("5 of both", x.think(0, 0, 0, 1), 107);
        due.is("5 the least", x.weigh(0, 1), 99);
        due.is("5 of both", x.think(0, 0, 0, 1), 9);
        due.is("5 no such, ahead of too much", x.weigh(2, 100), NONE);
    }

    /** How many there are in 1000 years: 1000 at most of all together. */
    private static void p6together() {
        HowHigh x = new HowHigh();
        x.path(1, 0, 0, 0);
        due.is("6 999", x.storm(10, 999), 0);
        due.is("6 1001 together", x.storm(10, 2), STATE);
        due.is("6 1999 together", x.storm(10, 1000), STATE);
        due.is("6 none came", x.flood(0, 0, 0), 999);
        due.is("6 none came", x.count(5), 1);
        due.is("6 1000 together", x.storm(0, 1), 1);
        due.is("6 both", x.flood(0, 0, 0), 999);
        due.is("6 1001 together", x.storm(0, 1), STATE);
        due.is("6 bad ahead of that", x.storm(41, 1), BAD);
        due.is("6 bad ahead of that", x.storm(0, 0), BAD);
        due.is("6 two", x.count(5), 2);
        due.is("6 1001 of one", new HowHigh().storm(0, 1001), BAD);
        due.is("6 1000 of one", new HowHigh().storm(0, 1000), 0);
    }

    /** STORMS are numbered from 0 on, 6 at most. */
    private static void p6full() {
        HowHigh x = new HowHigh();
        x.path(1, 0, 0, 0);
        for (int s = 0; s < 6; s++) {
            due.is("6 its number", x.storm(40 - s, 1 + s), s);
        }
        due.is("6 a seventh", x.storm(40, 979), FULL);
        due.is("6 a seventh, 1001 together", x.storm(40, 980), STATE);
        due.is("6 a seventh that is bad", x.storm(41, 980), BAD);
        due.is("6 six", x.count(5), 6);
        due.is("6 as they were", x.flood(0, 0, 34), 21);
        due.is("6 as they were", x.flood(0, 0, 39), 1);
    }

    /** BASE, RATE times y by 10 (cut), and .. (y less BEND) times FASTER by 10 (cut). */
    private static void p7cut() {
        HowHigh x = new HowHigh();
        x.path(1, 3, 9, 0);
        x.path(1, 0, 9, 9);
        x.path(1, 30, 40, 40);
        x.path(1, 0, 0, 0);
        due.is("7 9 by 10", x.level(0, 1), 3);
        due.is("7 18 by 10", x.level(0, 2), 4);
        due.is("7 90 by 10", x.level(0, 10), 12);
        due.is("7 both cut", x.level(1, 1), 0);
        due.is("7 both cut, 1.8 twice", x.level(1, 2), 2);
        due.is("7 90 by 10 twice", x.level(1, 10), 18);
        due.is("7 the highest", x.level(2, 15), 150);
        due.is("7 the lowest", x.level(3, 15), 0);
        x.set(0, 1);
        due.is("7 a year behind YEARS", x.level(2, 15), 150);
        due.is("7 no year", x.level(2, 16), -7);
        due.is("7 no year", x.level(2, -1), -7);
        due.is("7 no path", x.level(4, 0), -5);
        due.is("7 no path, no year", x.level(4, -1), -5);
    }

    /** If y is above BEND. */
    private static void p7bend() {
        HowHigh x = new HowHigh();
        x.path(1, 0, 0, 40);
        x.path(1, 0, 0, 740);
        x.path(1, 0, 0, 1440);
        x.path(1, 0, 0, 1540);
        due.is("7 year 0", x.level(0, 0), 0);
        due.is("7 above 0", x.level(0, 1), 4);
        due.is("7 just BEND", x.level(1, 7), 0);
        due.is("7 above it", x.level(1, 8), 4);
        due.is("7 two above it", x.level(1, 9), 8);
        due.is("7 below it", x.level(1, 6), 0);
        due.is("7 just 14", x.level(2, 14), 0);
        due.is("7 the last year", x.level(2, 15), 4);
        due.is("7 never", x.level(3, 15), 0);
    }

    /** A STORM comes with LEVEL and HEIGHT above it. */
    private static void p8above() {
        HowHigh x = new HowHigh();
        x.path(1, 0, 0, 0);
        x.path(1, 30, 40, 40);
        x.path(1, 29, 20, 0);
        x.storm(0, 3);
        x.storm(40, 5);
        due.is("8 0 is not above 0", x.flood(0, 0, 0), 5);
        due.is("8 40 is above 39", x.flood(0, 0, 39), 5);
        due.is("8 40 is not above 40", x.flood(0, 0, 40), 0);
        due.is("8 150 is above 99", x.flood(1, 15, 99), 8);
        due.is("8 29 is above 28", x.flood(2, 0, 28), 8);
        due.is("8 29 is not above 29", x.flood(2, 0, 29), 5);
        due.is("8 59 and 40 are not above 99", x.flood(2, 15, 99), 0);
        due.is("8 59 and 40 are above 98", x.flood(2, 15, 98), 5);
        due.is("8 no such wall", x.flood(2, 15, 100), -7);
        due.is("8 no such wall", x.flood(2, 15, -1), -7);
        x.set(0, 1);
        due.is("8 a year behind YEARS", x.flood(1, 15, 99), 8);
    }

    /** For each STORM that comes over it how many there are times what harm says. */
    private static void p9eachStorm() {
        HowHigh x = new HowHigh();
        x.path(1, 0, 0, 0);
        x.storm(10, 7);
        x.storm(11, 100);
        x.storm(11, 30);
        due.is("9 none comes over 11", x.harm(0, 0, 11, 10), 0);
        due.is("9 two come over 10", x.harm(0, 0, 10, 10), 130 * 10);
        due.is("9 all come over 9", x.harm(0, 0, 9, 10), 130 * 20 + 7 * 10);
        due.is("9 nothing behind", x.harm(0, 0, 0, 0), 0);
        due.is("9 no such", x.harm(0, 0, 0, 10000), HowHigh.NO);
        due.is("9 no such", x.harm(0, 0, 0, -1), HowHigh.NO);
        x.set(0, 1);
        due.is("9 a year behind YEARS", x.harm(0, 15, 10, 10), 1300);
        due.is("9 no year", x.harm(0, 16, 10, 10), HowHigh.NO);
    }

    /** Harm: 0 .. 9999, else the bound. */
    private static void p9bounds() {
        HowHigh x = new HowHigh();
        x.path(1, 0, 0, 0);
        x.storm(10, 3);
        x.storm(20, 1);
        due.is("9 9999", x.harm(0, 0, 19, 9999), 9999);
        due.is("9 twice 5000", x.harm(0, 0, 18, 5000), 9999);
        due.is("9 9998", x.harm(0, 0, 18, 4999), 9998);
        due.is("9 each by its own bound", x.harm(0, 0, 0, 9999), 4 * 9999);
        LawTest.law(x, "harm behind - 5; cost 0; grow 0;");
        due.is("9 -1", x.harm(0, 0, 0, 4), 0);
        due.is("9 0", x.harm(0, 0, 0, 5), 0);
        due.is("9 1", x.harm(0, 0, 0, 6), 4);
        LawTest.law(x, "harm behind + 5; cost 0; grow 0;");
        due.is("9 9998", x.harm(0, 0, 0, 9993), 4 * 9998);
        due.is("9 9999", x.harm(0, 0, 0, 9994), 4 * 9999);
        due.is("9 10000", x.harm(0, 0, 0, 9995), 4 * 9999);
        LawTest.law(x, "harm behind * behind * behind; cost 0; grow 0;");
        // 1291 cubed wraps to a number below 0, 1626 cubed to one above it.
        due.is("9 what wraps below 0", x.harm(0, 0, 0, 1291), 0);
        due.is("9 what wraps above 0", x.harm(0, 0, 0, 1626), 4L * Math.min(9999, 1626 * 1626 * 1626));
    }

    /** Over: LEVEL and HEIGHT less h; behind; wall: h; level; year; up 0. */
    private static void p9seen() {
        String[] names = {"over", "behind", "wall", "level", "year", "up"};
        int[] want = {33, 7, 3, 24, 6, 0};
        for (int i = 0; i < names.length; i++) {
            HowHigh x = new HowHigh();
            x.set(3, 1);
            x.path(1, 0, 40, 0);
            x.storm(12, 1);
            LawTest.law(x, "harm " + names[i] + "; cost 0; grow 0;");
            due.is("9 " + names[i], x.harm(0, 6, 3, 7), want[i]);
        }
    }

    /** 0, if up is 0. */
    private static void p10nothingRaised() {
        HowHigh x = new HowHigh();
        due.is("10 nothing raised", x.cost(0, 99, 15, 9999), 0);
        due.is("10 one raised", x.cost(1, 99, 15, 9999), 119);
        due.is("10 99 raised", x.cost(99, 99, 15, 9999), 20 + 99 * 99);
        due.is("10 100 raised", x.cost(100, 99, 15, 9999), BAD);
        due.is("10 a wall of 0", x.cost(99, 0, 0, 0), 20);
        x.set(0, 1);
        due.is("10 a year behind YEARS", x.cost(1, 1, 15, 0), 21);
        due.is("10 nothing raised, a bad wall", x.cost(0, 100, 0, 0), BAD);
    }

    /** Cost: 0 .. 9999, else the bound; over: 1 if it is BROAD, else 0; behind; wall: h; level 0; year; up. */
    private static void p10bounds() {
        HowHigh x = new HowHigh();
        LawTest.law(x, "harm 0; cost behind - 5; grow 0;");
        due.is("10 -1", x.cost(1, 0, 0, 4), 0);
        due.is("10 0", x.cost(1, 0, 0, 5), 0);
        due.is("10 1", x.cost(1, 0, 0, 6), 1);
        LawTest.law(x, "harm 0; cost behind + 5; grow 0;");
        due.is("10 9998", x.cost(1, 0, 0, 9993), 9998);
        due.is("10 9999", x.cost(1, 0, 0, 9994), 9999);
        due.is("10 10000", x.cost(1, 0, 0, 9995), 9999);
        String[] names = {"over", "behind", "wall", "level", "year", "up"};
        int[] want = {0, 7, 3, 0, 6, 9};
        for (int broad = 0; broad < 2; broad++) {
            for (int i = 0; i < names.length; i++) {
                HowHigh y = new HowHigh();
                y.path(1, 30, 40, 40);
                y.set(3, broad);
                LawTest.law(y, "harm 0; cost " + names[i] + "; grow 0;");
                due.is("10 " + names[i], y.cost(9, 3, 6, 7), i == 0 ? broad : want[i]);
            }
        }
    }

    /** As a year (0 .. 16) begins, if nothing is left. */
    private static void p11years() {
        HowHigh x = new HowHigh();
        LawTest.law(x, "harm 0; cost 0; grow 1 + year;");
        int want = 100;
        for (int y = 0; y <= 16; y++) {
            due.is("11 as year " + y + " begins", x.behindThen(y), want);
            want += y + 1;
        }
        due.is("11 no year", x.behindThen(17), BAD);
        due.is("11 no year", x.behindThen(-1), BAD);
        x.set(0, 1);
        due.is("11 a year behind YEARS", x.behindThen(16), 236);
        x.path(1, 30, 40, 40);
        x.set(1, 0);
        x.rule(5, 0, 0, 0);
        due.is("11 a rule that leaves does not matter", x.behindThen(16), 236);
    }

    /** What grow says: -999 .. 999, else the bound; what is behind: 0 .. 9999, else the bound. */
    private static void p11bounds() {
        int[] said = {998, 999, 1000, 9999};
        int[] by = {998, 999, 999, 999};
        for (int i = 0; i < said.length; i++) {
            HowHigh x = new HowHigh();
            x.set(2, 999);
            LawTest.law(x, "harm 0; cost 0; grow " + said[i] + " * (year < 3) - " + said[i] + " * (2 < year);");
            due.is("11 grows by " + said[i], x.behindThen(1), 999 + by[i]);
            due.is("11 less by " + said[i], x.behindThen(4), 999 + 2 * by[i]);
            due.is("11 down to 0", x.behindThen(8), Math.max(0, 999 - 2 * by[i]));
        }
        HowHigh x = new HowHigh();
        LawTest.law(x, "harm 0; cost 0; grow 999 - 10 * (year = 0);");
        due.is("11 100, 989 and eight times 999", x.behindThen(9), 9081);
        due.is("11 up to the bound", x.behindThen(10), 9999);
        due.is("11 and no more", x.behindThen(16), 9999);
        LawTest.law(x, "harm 0; cost 0; grow (behind = 0) * 5 - 100 * (0 < behind);");
        due.is("11 just to 0", x.behindThen(1), 0);
        due.is("11 from there on", x.behindThen(2), 5);
        due.is("11 no less than 0", x.behindThen(3), 0);
        LawTest.law(x, "harm 0; cost 0; grow 1 + over + wall + level + up + (behind = 100);");
        x.set(3, 1);
        x.path(1, 30, 40, 40);
        due.is("11 behind so far alone", x.behindThen(2), 100 + 2 + 1);
    }

    private static void p12bits() {
        HowHigh x = new HowHigh();
        due.is("12 no paths", x.seen(0, 0), 0);
        due.is("12 no paths, no year", x.seen(16, 0), BAD);
        for (int p = 0; p < 4; p++) {
            x.path(1, p / 2, 0, 0);
        }
        due.is("12 the first two", x.seen(15, 0), 3);
        due.is("12 the last two", x.seen(0, 1), 12);
        due.is("12 none", x.seen(0, 2), 0);
        due.is("12 none", x.seen(0, -1), 0);
        due.is("12 none", x.seen(0, Integer.MAX_VALUE), 0);
        due.is("12 no year", x.seen(-1, 0), BAD);
        HowHigh y = new HowHigh();
        for (int p = 0; p < 4; p++) {
            y.path(1, 30, 40, 40);
        }
        y.set(0, 1);
        due.is("12 all, in a year behind YEARS", y.seen(15, 150), 15);
    }

    /** Part 0 above, 1 below the line, in lowest terms (0 by 1, if none has). */
    private static void p13terms() {
        HowHigh x = new HowHigh();
        for (int p = 0; p < 4; p++) {
            x.path(99, p / 3, 0, 0);
        }
        fraction("13 one of three alike", x, 0, 0, 1, 3);
        fraction("13 alone", x, 3, 1, 1, 1);
        fraction("13 another level", x, 3, 0, 0, 1);
        fraction("13 none has it", x, 0, 2, 0, 1);
        fraction("13 none has it", x, 3, Integer.MIN_VALUE, 0, 1);
        x.weigh(0, 98);
        fraction("13 98 by 296", x, 0, 0, 49, 148);
        fraction("13 99 by 296", x, 1, 0, 99, 296);
        x.weigh(1, 1);
        x.weigh(2, 1);
        fraction("13 98 by 100", x, 0, 0, 49, 50);
        fraction("13 1 by 100", x, 2, 0, 1, 100);
    }

    private static void fraction(String call, HowHigh x, int p, int level, long above, long below) {
        due.is(call + ", above", x.think(p, 15, level, 0), above);
        due.is(call + ", below", x.think(p, 15, level, 1), below);
    }
}
