/** Promises 25 to 35: the best plans, what knowing, waiting and building broad are worth, regrets, laws. */
public final class BestTest {
    private static final Due due = new Due("BestTest");

    public static void main(String[] args) {
        withoutPaths();
        oneRaise();
        likeOnes();
        highestWall();
        furthestRaise();
        noLongerHolding();
        knowing();
        waiting();
        broad();
        deciding();
        regretting();
        surest();
        laws();
        refusals();
        due.end();
    }

    private static void part(String call, HowHigh x, int p, long above, long below) {
        due.is(call + " above", x.best(p, 0), above);
        due.is(call + " below", x.best(p, 1), below);
    }

    private static void planIs(HowHigh x, int p, int... want) {
        for (int y = 0; y < want.length; y++) {
            due.is("raised on " + p + " in " + y, x.planned(p, y), want[y]);
        }
    }

    private static void withoutPaths() {
        HowHigh x = new HowHigh();
        x.rule(2, 0, 900, 0);
        part("best of all", x, -1, 0, 1);
        due.is("no path", x.best(0, 0), HowHigh.NO);
        due.is("no plan", x.planned(-1, 0), -5);
        due.is("no plan, ahead of the year", x.planned(-1, 99), -5);
        due.is("know", x.know(0), 0);
        due.is("know", x.know(1), 1);
        due.is("waits", x.waits(16, 0), 0);
        due.is("waits", x.waits(16, 1), 1);
        due.is("broad", x.broadWorth(0), 0);
        due.is("broad", x.broadWorth(1), 1);
        due.is("decided", x.decided(), -1);
        due.is("regret", x.regret(0, 0), HowHigh.NO);
        due.is("worst", x.worst(0), HowHigh.NO);
        due.is("all are alike", x.sure(0), 0);
        due.is("all are alike", x.sure(1), 0);
        due.is("thousand", x.thousand(0, 0), 0);
        due.is("thousand", x.thousand(0, 1), 1);
        due.is("price", x.price(0), 0);
    }

    /** A wall of 10, a storm of 12 in each year, which harms 100 (so 100000 by 1000) at the sea's level 0. */
    private static HowHigh storm() {
        HowHigh x = new HowHigh();
        x.set(0, 4);
        x.set(1, 10);
        x.path(1, 0, 0, 0);
        x.storm(12, 1000);
        return x;
    }

    private static void oneRaise() {
        HowHigh x = storm();
        LawTest.law(x, "harm 100 ; cost 50 + 10 * up ; grow 0 ;");
        part("raised by 2 at once", x, 0, 70, 1);
        planIs(x, 0, 2, 0, 0, 0);
        part("of all", x, -1, 70, 1);
        planIs(x, -1, 2, 0, 0, 0);
        LawTest.law(x, "harm 100 ; cost 401 ; grow 0 ;");
        part("too dear", x, 0, 400, 1);
        planIs(x, 0, 0, 0, 0, 0);
        LawTest.law(x, "harm 100 + year ; cost (350 - 100 * year) * up ; grow 0 ;");
        // Raised by 2 in year 1: 100 and 500; in 2: 201 and 300; in 3: 303 and 100; in 0: 700; never: 406.
        part("later", x, 0, 403, 1);
        planIs(x, 0, 0, 0, 0, 2);
        x.set(1, 9);
        LawTest.law(x, "harm 100 ; cost up * up * 10 ; grow 0 ;");
        // Three by one raise are 90; by one and then two 100 and 50; never 400.
        part("three", x, 0, 90, 1);
        planIs(x, 0, 3, 0, 0, 0);
        x.set(1, 8);
        part("four take two years", x, 0, 40 + 100 + 40, 1);
        due.is("the least raising first", x.planned(0, 0), 2);
        due.is("the rest", x.planned(0, 1), 2);
        x.storm(0, 1000);
        LawTest.law(x, "harm 1 + behind ; cost up ; grow behind ;");
        x.set(2, 1);
        // Behind are 1, 2, 4, 8: 2 is harmed in year 0, and the wall is 12 in year 1.
        part("what grows", x, 0, 2 + 4, 1);
    }

    private static void likeOnes() {
        HowHigh x = storm();
        LawTest.law(x, "harm 0 ; cost 0 ; grow 0 ;");
        part("nothing matters", x, 0, 0, 1);
        planIs(x, 0, 0, 0, 0, 0);
        planIs(x, -1, 0, 0, 0, 0);
        LawTest.law(x, "harm 10 ; cost up * 5 ; grow 0 ;");
        // Two cost what one year harms.
        planIs(x, 0, 2, 0, 0, 0);
        x.set(0, 1);
        planIs(x, 0, 0);
        part("like", x, 0, 10, 1);
        x.set(0, 4);
        LawTest.law(x, "harm 10 * (2 < year) ; cost up * 5 ; grow 0 ;");
        planIs(x, 0, 0, 0, 0, 0);
        LawTest.law(x, "harm 11 * (2 < year) ; cost up * 5 ; grow 0 ;");
        planIs(x, 0, 0, 0, 0, 2);
        LawTest.law(x, "harm 11 * (0 < year) ; cost up * 5 ; grow 0 ;");
        planIs(x, 0, 0, 2, 0, 0);
    }

    private static void highestWall() {
        HowHigh x = new HowHigh();
        x.set(0, 16);
        x.set(1, 60);
        x.path(1, 30, 40, 40);
        x.storm(40, 10);
        LawTest.law(x, "harm over * 50 ; cost 1 ; grow 0 ;");
        int wall = 60;
        for (int y = 0; y < 16; y++) {
            int up = x.planned(0, y);
            due.holds("3 at most", up <= 3);
            wall += up;
        }
        due.is("99 at most", wall, 99);
        due.is("raised late, too", x.planned(0, 12), 3);
        due.is("no more", x.planned(0, 13), 0);
        LawTest.law(x, "harm 1 + over * 50 ; cost 0 ; grow 0 ;");
        int again = 60;
        for (int y = 0; y < 16; y++) {
            again += x.planned(-1, y);
        }
        due.is("99 at most", again, 99);
    }

    private static void furthestRaise() {
        HowHigh x = new HowHigh();
        x.set(0, 16);
        x.set(1, 0);
        x.path(1, 30, 40, 40);
        x.storm(40, 1000);
        // One step of over is worth 50 in each year to come, and one of the wall costs 1.
        LawTest.law(x, "harm over * 50 ; cost up ; grow 0 ;");
        long sum = 48000;
        for (int y = 0; y < 16; y++) {
            due.is("raised by 3 in " + y, x.planned(0, y), 3);
            sum += 1000L * 50 * (x.level(0, y) + 40 - 3 * (y + 1));
        }
        part("all the way", x, 0, sum / 1000, 1);
        part("all the way", x, -1, sum / 1000, 1);
        x.set(1, 51);
        due.is("just to 99", x.planned(0, 15), 3);
        x.set(1, 52);
        due.is("one less in the last year", x.planned(0, 15), 2);
        due.is("not before", x.planned(0, 14), 3);
    }

    /** What a plan was may not stay when something changes. */
    private static void noLongerHolding() {
        HowHigh x = storm();
        LawTest.law(x, "harm 100 ; cost 50 + 10 * up + over * 100 ; grow 0 ;");
        part("at first", x, 0, 70, 1);
        x.set(0, 3);
        x.set(1, 9);
        part("wall", x, 0, 80, 1);
        x.set(3, 1);
        part("broad", x, -1, 180, 1);
        x.set(0, 1);
        part("years", x, 0, 100, 1);
        x.set(0, 3);
        x.storm(13, 0);
        part("no storm came", x, 0, 180, 1);
        x.image();
        LawTest.law(x, "harm behind ; cost 200 ; grow 0 ;");
        part("law", x, -1, 200, 1);
        x.set(2, 60);
        part("behind", x, -1, 180, 1);
        x.back();
        part("back", x, -1, 180, 1);
        due.is("back", x.planned(-1, 0), 3);
        x.path(9, 30, 0, 0);
        part("a path on which no raising helps", x, -1, 300, 1);
        x.weigh(0, 99);
        x.weigh(1, 1);
        part("weights", x, -1, 183, 1);
        HowHigh z = new HowHigh();
        z.path(1, 0, 0, 0);
        part("no storm", z, -1, 0, 1);
        z.storm(40, 1000);
        due.holds("a storm", z.best(-1, 0) > 0);
        HowHigh w = new HowHigh();
        w.path(1, 0, 0, 0);
        part("no storm", w, -1, 0, 1);
        RulesTest.sheet(w, 0, 40, 1000);
        w.stormsBy(0, 2, 0, 1);
        due.holds("a storm by a sheet", w.best(-1, 0) > 0);
    }

    /** On one path the wall has to be raised, on the other one it need not. */
    private static HowHigh twoPaths() {
        HowHigh x = storm();
        x.weigh(0, 3);
        x.path(1, 2, 0, 0);
        x.set(1, 12);
        LawTest.law(x, "harm 100 ; cost 50 + 10 * up ; grow 0 ;");
        return x;
    }

    private static void knowing() {
        HowHigh x = twoPaths();
        // On path 1 raising by 2 comes to 70; for all it does, too, as 400 by 4 is 100.
        part("path 0", x, 0, 0, 1);
        part("path 1", x, 1, 70, 1);
        part("all", x, -1, 70, 1);
        due.is("above", x.know(0), 105);
        due.is("below", x.know(1), 2);
        x.weigh(0, 99);
        part("all", x, -1, 4, 1);
        planIs(x, -1, 0, 0, 0, 0);
        planIs(x, 1, 2, 0, 0, 0);
        due.is("above, 400 less 70", x.know(0), 33);
        due.is("below, 100", x.know(1), 10);
        x.weigh(0, 1);
        x.weigh(1, 99);
        due.is("below", x.know(1), 10);
        due.is("above", x.know(0), 7);
    }

    private static void waiting() {
        HowHigh x = twoPaths();
        due.is("no year", x.waits(0, 0), 0);
        due.is("no year", x.waits(0, 1), 1);
        // One year of path 1 is 100 by 4, two more years, raised by then, are none.
        due.is("a year", x.waits(1, 0), 25);
        due.is("a year", x.waits(1, 1), 1);
        due.is("all years", x.waits(4, 0), 30);
        due.is("more years", x.waits(16, 0), 30);
        due.is("three", x.waits(3, 0), 30);
        x.weigh(0, 5);
        due.is("below", x.waits(1, 1), 1);
        x.weigh(1, 2);
        // By 7: three years of 200 by 7 and a raise, or all four years.
        due.is("a year", x.waits(1, 0), 200);
        due.is("a year", x.waits(1, 1), 7);
        planIs(x, -1, 2, 0, 0, 0);
    }

    private static void broad() {
        HowHigh x = storm();
        LawTest.law(x, "harm 100 ; cost 50 + 10 * up - over * 30 ; grow 0 ;");
        due.is("cheaper", x.broadWorth(0), 30);
        due.is("by 1", x.broadWorth(1), 1);
        x.set(3, 1);
        due.is("whether it is or not", x.broadWorth(0), 30);
        part("it is", x, 0, 40, 1);
        LawTest.law(x, "harm 100 ; cost 50 + 10 * up + over * 30 ; grow 0 ;");
        due.is("dearer", x.broadWorth(0), -30);
        due.is("by 1", x.broadWorth(1), 1);
        x.weigh(0, 3);
        x.path(1, 0, 0, 0);
        LawTest.law(x, "harm 100 * (behind < 50) ; cost 50 + 10 * up + over * 30 ; grow - 60 ;");
        // Behind are 100, 40 and 0, 0: harm comes from year 1 on.
        due.is("dearer", x.broadWorth(0), -30);
        due.is("it stays broad", x.count(3), 1);
        part("it stays broad", x, -1, 100, 1);
    }

    private static void deciding() {
        HowHigh x = storm();
        LawTest.law(x, "harm 100 ; cost 50 + 10 * up ; grow 0 ;");
        due.is("at once", x.decided(), 0);
        x.path(1, 0, 0, 107);
        x.set(1, 12);
        due.is("never on the first", x.decided(), -1);
        HowHigh y = storm();
        LawTest.law(y, "harm 100 ; cost 50 + 10 * up ; grow 0 ;");
        y.path(1, 0, 0, 0);
        due.is("both at once", y.decided(), 0);
        HowHigh z = new HowHigh();
        z.set(0, 6);
        z.set(1, 12);
        z.path(1, 0, 0, 210);
        z.path(1, 0, 0, 110);
        z.storm(12, 1000);
        LawTest.law(z, "harm 100 ; cost 50 + 10 * up ; grow 0 ;");
        // The first rises from year 3 on, the second from 2 on.
        due.is("first path", z.planned(0, 2), 0);
        due.is("the last of them", z.decided(), 3);
    }

    private static void regretting() {
        HowHigh x = twoPaths();
        x.rule(0, 0, 0, 0);
        x.rule(2, 1000, 200, 0);
        x.rule(5, 1, 0, 0);
        due.is("none", x.regret(0, 0), 0);
        due.is("not raised", x.regret(0, 1), 330000);
        due.is("raised", x.regret(1, 0), 70000);
        due.is("raised", x.regret(1, 1), 0);
        due.is("worst", x.worst(0), 330000);
        due.is("worst", x.worst(1), 70000);
        x.set(2, 20);
        x.set(1, 0);
        due.is("left is below the best", x.regret(2, 1), 20000 - 400000);
        due.is("worst below 0", x.worst(2), -380000);
        due.is("rule", x.regret(3, 0), HowHigh.NO);
        due.is("rule", x.regret(-1, 0), HowHigh.NO);
        due.is("path", x.regret(0, 2), HowHigh.NO);
        due.is("path", x.regret(0, -1), HowHigh.NO);
        due.is("rule", x.worst(3), HowHigh.NO);
        due.is("rule", x.worst(-1), HowHigh.NO);
    }

    private static void surest() {
        HowHigh x = twoPaths();
        due.is("no rule", x.sure(0), -1);
        due.is("no rule", x.sure(1), -1);
        due.is("bad", x.sure(2), HowHigh.BAD);
        due.is("bad", x.sure(-1), HowHigh.BAD);
        x.rule(0, 0, 0, 0);
        due.is("the only one", x.sure(0), 0);
        x.rule(2, 1000, 200, 0);
        x.rule(2, 1000, 200, 0);
        due.is("the worst is least", x.sure(0), 1);
        due.is("the mean is least", x.sure(1), 1);
        x.weigh(0, 99);
        due.is("the worst is least", x.sure(0), 1);
        due.is("the mean is least", x.sure(1), 0);
        x.rule(2, 999, 200, 0);
        due.is("the first of like ones", x.sure(0), 1);
    }

    private static void laws() {
        HowHigh x = new HowHigh();
        x.set(0, 2);
        x.set(1, 10);
        x.path(2, 0, 0, 0);
        x.path(1, 1, 0, 0);
        x.storm(12, 400);
        x.storm(13, 99);
        LawTest.law(x, "harm 10 ; cost up * 3 ; grow 0 ;");
        // MORE 499 needs nothing, 400 .. 498 needs 2 (3 on path 1), 99 .. needs 2 and 3, less 3 and 4.
        due.is("not at all", x.thousand(499, 0), 499);
        due.is("by", x.thousand(499, 1), 50);
        due.is("0", x.thousand(0, 0), 10);
        due.is("0", x.thousand(0, 1), 1);
        due.is("98", x.thousand(98, 0), 10);
        due.is("99, 26940 by 3000", x.thousand(99, 0), 449);
        due.is("99", x.thousand(99, 1), 50);
        due.is("1000", x.thousand(1000, 0), 499);
        due.is("no such", x.thousand(1001, 0), HowHigh.NO);
        due.is("no such", x.thousand(-1, 0), HowHigh.NO);
        due.is("no such", x.thousand(0, 2), HowHigh.NO);
        due.is("no such", x.thousand(0, -1), HowHigh.NO);
        due.is("no rule came", x.count(6), 0);
        // MEAN is 10 up to 50, 8.98 up to 450, 9.98 from 500 on.
        due.is("least", x.price(10), 0);
        due.is("below", x.price(9), 100);
        due.is("none", x.price(8), -1);
        due.is("none", x.price(0), -1);
        due.is("bad", x.price(-1), HowHigh.BAD);
        due.is("bad", x.price(1000000), HowHigh.BAD);
        due.is("all", x.price(999999), 0);
        LawTest.law(x, "harm 0 ; cost up * 3 ; grow 0 ;");
        due.is("the first that needs nothing", x.price(0), 500);
    }

    private static void refusals() {
        HowHigh x = twoPaths();
        due.is("path", x.best(2, 0), HowHigh.NO);
        due.is("path", x.best(-2, 0), HowHigh.NO);
        due.is("part", x.best(-1, 2), HowHigh.NO);
        due.is("part", x.best(0, -1), HowHigh.NO);
        due.is("path", x.planned(2, 0), -5);
        due.is("path", x.planned(-2, 0), -5);
        due.is("year", x.planned(0, 4), -7);
        due.is("year", x.planned(-1, -1), -7);
        due.is("path ahead of year", x.planned(2, 4), -5);
        due.is("part", x.know(2), HowHigh.NO);
        due.is("part", x.know(-1), HowHigh.NO);
        due.is("part", x.waits(0, 2), HowHigh.NO);
        due.is("part", x.waits(0, -1), HowHigh.NO);
        due.is("n", x.waits(17, 0), HowHigh.NO);
        due.is("n", x.waits(-1, 0), HowHigh.NO);
        due.is("part", x.broadWorth(2), HowHigh.NO);
        due.is("part", x.broadWorth(-1), HowHigh.NO);
    }
}
