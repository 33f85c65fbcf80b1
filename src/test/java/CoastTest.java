/** Promises 1 to 13: the coast. */
public final class CoastTest {
    private static final Due due = new Due("CoastTest");

    public static void main(String[] args) {
        newObject();
        setting();
        counting();
        paths();
        weights();
        storms();
        levels();
        floods();
        harms();
        costs();
        growth();
        seenPaths();
        thinking();
        due.end();
    }

    /** Two paths and three storms. */
    static HowHigh coast() {
        HowHigh x = new HowHigh();
        x.path(3, 2, 10, 205);
        x.path(1, 0, 30, 1540);
        x.storm(10, 100);
        x.storm(16, 30);
        x.storm(25, 5);
        return x;
    }

    private static void newObject() {
        HowHigh x = new HowHigh();
        int[] first = {8, 20, 100, 0, 0, 0, 0, 0, 0, 1, 0, 0};
        for (int what = 0; what < first.length; what++) {
            due.is("count " + what, x.count(what), first[what]);
        }
        due.is("push at first", x.push(4), 1);
        due.is("no sheet at first", x.cell(0, 0, 0), -11);
        due.is("no image at first", x.back(), HowHigh.STATE);
        due.is("no rule at first", x.ruleTold(0, 0), -5);
        due.is("NONE", HowHigh.NONE, -1);
        due.is("BAD", HowHigh.BAD, -2);
        due.is("STATE", HowHigh.STATE, -3);
        due.is("FULL", HowHigh.FULL, -4);
        due.is("NO", HowHigh.NO, -4611686018427387904L);
    }

    private static void setting() {
        HowHigh x = new HowHigh();
        int[] least = {1, 0, 0, 0};
        int[] most = {16, 60, 999, 1};
        int[] was = {8, 20, 100, 0};
        for (int what = 0; what < 4; what++) {
            due.is("set below", x.set(what, least[what] - 1), HowHigh.BAD);
            due.is("set above", x.set(what, most[what] + 1), HowHigh.BAD);
            due.is("unchanged", x.count(what), was[what]);
            due.is("set most", x.set(what, most[what]), was[what]);
            due.is("set least", x.set(what, least[what]), most[what]);
            due.is("is least", x.count(what), least[what]);
        }
        due.is("no such what", x.set(4, 5), HowHigh.NONE);
        due.is("no such what", x.set(-1, 5), HowHigh.NONE);
        due.is("what ahead of v", x.set(4, -9), HowHigh.NONE);
    }

    private static void counting() {
        HowHigh x = coast();
        due.is("paths", x.count(4), 2);
        due.is("storms", x.count(5), 3);
        x.rule(0, 0, 0, 0);
        due.is("rules", x.count(6), 1);
        x.street(1, 1);
        x.street(2, 2);
        due.is("streets", x.count(7), 2);
        x.town(1, 1);
        due.is("towns", x.count(8), 1);
        x.feed(97, 3);
        due.is("bytes", x.count(11), 3);
        LawTest.tape(x, "harm 1; cost 1; grow 1;");
        due.is("a fault", x.text(), -100);
        LawTest.tape(x, "harm 1; cost 1; grow 1;");
        due.is("a text", x.text(), 1);
        due.is("texts", x.count(9), 2);
        x.force(1);
        due.is("the law", x.count(10), 1);
        due.is("bytes", x.count(11), 0);
        due.is("bad", x.count(12), HowHigh.BAD);
        due.is("bad", x.count(-1), HowHigh.BAD);
    }

    private static void paths() {
        HowHigh x = new HowHigh();
        int[][] bad = {
            {0, 0, 0, 0}, {100, 0, 0, 0}, {-1, 0, 0, 0}, {1, -1, 0, 0}, {1, 31, 0, 0}, {1, 0, -1, 0},
            {1, 0, 41, 0}, {1, 0, 0, -1}, {1, 0, 0, 41}, {1, 0, 0, 99}, {1, 0, 0, 1541}, {1, 0, 0, 1600},
            {1, 0, 0, Integer.MIN_VALUE}, {1, 0, 0, Integer.MAX_VALUE},
        };
        for (int[] b : bad) {
            due.is("bad path", x.path(b[0], b[1], b[2], b[3]), HowHigh.BAD);
        }
        due.is("none came", x.count(4), 0);
        due.is("first", x.path(1, 0, 0, 0), 0);
        due.is("second", x.path(99, 30, 40, 1540), 1);
        due.is("third", x.path(1, 30, 40, 40), 2);
        due.is("fourth", x.path(1, 0, 0, 1500), 3);
        due.is("full", x.path(1, 0, 0, 0), HowHigh.FULL);
        due.is("bad ahead of full", x.path(0, 0, 0, 0), HowHigh.BAD);
        due.is("four", x.count(4), 4);
        due.is("highest level", x.level(2, 15), 30 + 60 + 60);
    }

    private static void weights() {
        HowHigh x = coast();
        due.is("what it was", x.weigh(0, 99), 3);
        due.is("what it was", x.weigh(0, 1), 99);
        due.is("the other", x.weigh(1, 5), 1);
        due.is("bad", x.weigh(0, 0), HowHigh.BAD);
        due.is("bad", x.weigh(0, 100), HowHigh.BAD);
        due.is("none", x.weigh(2, 5), HowHigh.NONE);
        due.is("none", x.weigh(-1, 5), HowHigh.NONE);
        due.is("none ahead of bad", x.weigh(2, 0), HowHigh.NONE);
        due.is("unchanged", x.weigh(0, 7), 1);
    }

    private static void storms() {
        HowHigh x = new HowHigh();
        due.is("bad", x.storm(-1, 5), HowHigh.BAD);
        due.is("bad", x.storm(41, 5), HowHigh.BAD);
        due.is("bad", x.storm(5, 0), HowHigh.BAD);
        due.is("bad", x.storm(5, 1001), HowHigh.BAD);
        due.is("bad", x.storm(5, Integer.MAX_VALUE), HowHigh.BAD);
        due.is("all at once", new HowHigh().storm(0, 1000), 0);
        for (int s = 0; s < 5; s++) {
            due.is("storm", x.storm(40 - s, 100), s);
        }
        due.is("too many together", x.storm(0, 501), HowHigh.STATE);
        due.is("just as many", x.storm(0, 500), 5);
        due.is("state ahead of full", x.storm(0, 1), HowHigh.STATE);
        HowHigh y = new HowHigh();
        for (int s = 0; s < 6; s++) {
            due.is("storm", y.storm(s, 1), s);
        }
        due.is("full", y.storm(0, 1), HowHigh.FULL);
        due.is("bad ahead of state", x.storm(41, 900), HowHigh.BAD);
        due.is("six", y.count(5), 6);
    }

    private static void levels() {
        HowHigh x = coast();
        int[] first = {2, 3, 4, 5, 7, 8, 10, 11, 13, 14, 16, 17, 19, 20, 22, 23};
        for (int y = 0; y < 16; y++) {
            due.is("level in " + y, x.level(0, y), first[y]);
        }
        due.is("bend at the last year", x.level(1, 15), 45);
        x.path(1, 1, 7, 1407);
        due.is("each part cut", x.level(2, 15), 1 + 10 + 0);
        due.is("no path", x.level(3, 0), -5);
        due.is("no path", x.level(-1, 0), -5);
        due.is("year", x.level(0, -1), -7);
        due.is("year", x.level(0, 16), -7);
        due.is("path ahead of year", x.level(3, 16), -5);
        x.set(0, 1);
        due.is("years do not matter", x.level(0, 15), 23);
    }

    private static void floods() {
        HowHigh x = coast();
        due.is("all", x.flood(0, 2, 13), 135);
        due.is("one as high as the wall", x.flood(0, 2, 14), 35);
        due.is("two", x.flood(0, 2, 19), 35);
        due.is("one", x.flood(0, 2, 20), 5);
        due.is("none", x.flood(0, 2, 29), 0);
        due.is("last wall", x.flood(0, 15, 99), 0);
        due.is("path", x.flood(2, 0, 0), -5);
        due.is("year", x.flood(0, 16, 0), -7);
        due.is("year", x.flood(0, -1, 0), -7);
        due.is("wall", x.flood(0, 0, 100), -7);
        due.is("wall", x.flood(0, 0, -1), -7);
        due.is("path ahead of all", x.flood(-1, 16, 100), -5);
    }

    private static void harms() {
        HowHigh x = coast();
        due.is("two storms", x.harm(0, 2, 15, 50), 30L * 5 * 50 + 5L * 14 * 50);
        due.is("the bound of each", x.harm(0, 2, 15, 9999), 35L * 9999);
        due.is("no storm", x.harm(0, 0, 99, 50), 0);
        due.is("nothing behind", x.harm(0, 2, 0, 0), 0);
        due.is("path", x.harm(2, 0, 0, 0), HowHigh.NO);
        due.is("year", x.harm(0, 16, 0, 0), HowHigh.NO);
        due.is("wall", x.harm(0, 0, 100, 0), HowHigh.NO);
        due.is("behind", x.harm(0, 0, 0, 10000), HowHigh.NO);
        due.is("below", x.harm(0, 0, 0, -1), HowHigh.NO);
        due.is("below", x.harm(0, 0, -1, 0), HowHigh.NO);
        due.is("below", x.harm(0, -1, 0, 0), HowHigh.NO);
        x.set(2, 1);
        due.is("what is behind is told", x.harm(0, 2, 15, 50), 11000);
        LawTest.law(x, "harm over * 1 + wall * 100 + level * 1000 + year * 10 + up ; cost 0 ; grow 0 ;");
        // Level 4 in year 2: a storm of 16 is 5 over 15, one of 25 is 14 over it.
        due.is("what harm sees", x.harm(0, 2, 15, 0), 30L * 5525 + 5L * 5534);
        LawTest.law(x, "harm 0 - 1 ; cost 0 ; grow 0 ;");
        due.is("no less than 0", x.harm(0, 2, 15, 0), 0);
        LawTest.law(x, "harm 9999 + behind ; cost 0 ; grow 0 ;");
        due.is("no more than 9999", x.harm(0, 2, 15, 1), 35L * 9999);
    }

    private static void costs() {
        HowHigh x = coast();
        due.is("nothing raised", x.cost(0, 15, 0, 50), 0);
        due.is("one", x.cost(1, 15, 0, 50), 35);
        due.is("the most", x.cost(99, 99, 15, 9999), 20 + 99 * 99);
        due.is("raising", x.cost(100, 0, 0, 0), HowHigh.BAD);
        due.is("raising", x.cost(-1, 0, 0, 0), HowHigh.BAD);
        due.is("wall", x.cost(1, 100, 0, 0), HowHigh.BAD);
        due.is("wall", x.cost(1, -1, 0, 0), HowHigh.BAD);
        due.is("year", x.cost(1, 0, 16, 0), HowHigh.BAD);
        due.is("year", x.cost(1, 0, -1, 0), HowHigh.BAD);
        due.is("behind", x.cost(1, 0, 0, 10000), HowHigh.BAD);
        due.is("behind", x.cost(0, 0, 0, -1), HowHigh.BAD);
        LawTest.law(x, "harm 0 ; cost over * 4000 + level * 1000 + wall * 100 + year * 10 + up + behind ; grow 0 ;");
        due.is("what cost sees", x.cost(3, 12, 4, 2000), 1200 + 40 + 3 + 2000);
        x.set(3, 1);
        due.is("it is broad", x.cost(3, 12, 4, 2000), 4000 + 1200 + 40 + 3 + 2000);
        due.is("the bound", x.cost(3, 99, 4, 9999), 9999);
        due.is("still nothing", x.cost(0, 99, 4, 9999), 0);
        LawTest.law(x, "harm 0 ; cost - up ; grow 0 ;");
        due.is("no less than 0", x.cost(3, 12, 4, 2000), 0);
    }

    private static void growth() {
        HowHigh x = coast();
        for (int y = 0; y <= 16; y++) {
            due.is("behind in " + y, x.behindThen(y), 100 + Math.min(y, 9));
        }
        due.is("bad", x.behindThen(17), HowHigh.BAD);
        due.is("bad", x.behindThen(-1), HowHigh.BAD);
        LawTest.law(x, "harm 0 ; cost 0 ; grow behind + year + 1000 * (over + wall + level + up) ;");
        due.is("what grow sees", x.behindThen(3), ((100 * 2 + 0) * 2 + 1) * 2 + 2);
        due.is("by 999 at most", x.behindThen(6), 1611 + 999 + 999);
        due.is("9999 at most", x.behindThen(16), 9999);
        LawTest.law(x, "harm 0 ; cost 0 ; grow - 9999 ;");
        x.set(2, 999);
        due.is("0 at least", x.behindThen(1), 0);
        due.is("0 at least", x.behindThen(2), 0);
        LawTest.law(x, "harm 0 ; cost 0 ; grow 9999 * (year < 3) - 9999 * (year = 3) ;");
        due.is("up", x.behindThen(3), 999 * 4);
        due.is("by 999 less at most", x.behindThen(4), 999 * 3);
    }

    private static void seenPaths() {
        HowHigh x = coast();
        due.is("the first", x.seen(0, 2), 1);
        due.is("the second", x.seen(0, 0), 2);
        due.is("none", x.seen(0, 1), 0);
        due.is("any level", x.seen(0, Integer.MIN_VALUE), 0);
        due.is("both", x.seen(1, 3), 3);
        due.is("bad", x.seen(16, 0), HowHigh.BAD);
        due.is("bad", x.seen(-1, 0), HowHigh.BAD);
    }

    private static void thinking() {
        HowHigh x = coast();
        x.weigh(1, 9);
        x.path(50, 30, 0, 0);
        due.is("above", x.think(0, 1, 3, 0), 1);
        due.is("below", x.think(0, 1, 3, 1), 4);
        due.is("above", x.think(1, 1, 3, 0), 3);
        due.is("below", x.think(1, 1, 3, 1), 4);
        due.is("not this one", x.think(2, 1, 3, 0), 0);
        due.is("not this one", x.think(2, 1, 3, 1), 1);
        due.is("alone", x.think(2, 1, 30, 0), 1);
        due.is("alone", x.think(2, 1, 30, 1), 1);
        due.is("none has it", x.think(0, 1, 29, 0), 0);
        due.is("none has it", x.think(0, 1, 29, 1), 1);
        due.is("path", x.think(3, 1, 3, 0), HowHigh.NO);
        due.is("path", x.think(-1, 1, 3, 0), HowHigh.NO);
        due.is("year", x.think(0, 16, 3, 0), HowHigh.NO);
        due.is("year", x.think(0, -1, 3, 0), HowHigh.NO);
        due.is("part", x.think(0, 1, 3, 2), HowHigh.NO);
        due.is("part", x.think(0, 1, 3, -1), HowHigh.NO);
    }
}
