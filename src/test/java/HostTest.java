/** Promises 48 to 52: sheets, copies, storms by a sheet, what lies at a place. */
public final class HostTest {
    private static final Due due = new Due("HostTest");

    public static void main(String[] args) {
        sheets();
        cells();
        copies();
        overlaps();
        stormsBySheet();
        stormsRefused();
        takenRules();
        takenStreets();
        due.end();
    }

    private static void sheets() {
        HowHigh x = new HowHigh();
        due.is("sheet", x.sheet(4, 0, 1), HowHigh.BAD);
        due.is("sheet", x.sheet(-1, 0, 1), HowHigh.BAD);
        due.is("sheet", x.sheet(4, -1, 1), HowHigh.BAD);
        due.is("sort", x.sheet(0, 3, 1), HowHigh.BAD);
        due.is("sort", x.sheet(0, -2, 1), HowHigh.BAD);
        due.is("above 40", x.sheet(0, 0, 41), HowHigh.BAD);
        due.is("below 0", x.sheet(0, 0, -1), -14);
        due.is("sort ahead of size", x.sheet(0, 3, -1), HowHigh.BAD);
        due.is("still missing", x.cell(0, 0, 0), -11);
        due.is("40", x.sheet(0, 2, 40), 1);
        due.is("its last", x.cell(0, 39, 1), 1);
        due.is("behind it", x.cell(0, 40, 1), -12);
        due.is("a refusal changes nothing", x.sheet(0, 1, -1), -14);
        due.is("its last", x.cell(0, 39, 1), 1);
        due.is("none", x.sheet(0, 2, 0), 1);
        due.is("no place", x.cell(0, 0, 1), -12);
        due.is("missing", x.sheet(0, -1, 99), 1);
        due.is("missing", x.cell(0, 0, 1), -11);
        due.is("missing again", x.sheet(0, -1, -99), 1);
        RulesTest.sheet(x, 1, 5, 5);
        x.sheet(1, 2, 16);
        due.is("all 0", x.rule(4, 0, 0, 1), 0);
        for (int y = 0; y < 16; y++) {
            due.is("all 0", x.ruleTold(0, 4 + y), 0);
        }
    }

    private static void cells() {
        HowHigh x = new HowHigh();
        due.is("sheet", x.cell(4, 0, 1), HowHigh.BAD);
        due.is("sheet", x.cell(-1, 0, 1), HowHigh.BAD);
        due.is("missing ahead of place", x.cell(0, 99, 1), -11);
        for (int sort = 0; sort < 3; sort++) {
            x.sheet(0, sort, 16);
            due.is("place", x.cell(0, 16, 1), -12);
            due.is("place", x.cell(0, -1, 1), -12);
            x.cell(0, 0, 256 + 5);
            x.cell(0, 1, 65536 + 6);
            x.cell(0, 2, -65536 + 7);
            x.cell(0, 3, 20);
            int came = x.rule(4, 0, 0, 0);
            due.is("of sort " + sort, came, sort == 0 ? 0 : HowHigh.BAD);
        }
        int[] want = {5, 6, 7, 20};
        for (int y = 0; y < 4; y++) {
            due.is("lowest 8 bits", x.ruleTold(0, 4 + y), want[y]);
        }
        x.sheet(0, 1, 16);
        x.cell(0, 15, 65536 * 3 + 6);
        due.is("lowest 16 bits", x.rule(4, 0, 0, 0), 1);
        due.is("lowest 16 bits", x.ruleTold(1, 19), 6);
        signs();
    }

    private static void signs() {
        int[] sorts = {0, 0, 1, 1, 2};
        int[] told = {127, 128, 32767, 32768, 32768};
        int[] bad = {0, 1, 0, 1, 0};
        for (int i = 0; i < sorts.length; i++) {
            HowHigh y = new HowHigh();
            y.path(1, 0, 0, 0);
            y.town(0, 0);
            y.sheet(0, sorts[i], 1);
            y.cell(0, 0, told[i]);
            due.is("sign of " + told[i] + " of sort " + sorts[i], y.join(0, 0, 0, 0), bad[i] == 1 ? HowHigh.BAD : 1);
        }
        HowHigh x = new HowHigh();
        x.sheet(0, 0, 2);
        x.cell(0, 0, 10);
        x.cell(0, 1, 200);
        due.is("a byte has a sign", x.stormsBy(0, 0, 0, 1), 0);
    }

    /** A sheet's first numbers, as a rule tells them to which they are told with 0 behind. */
    private static void isRow(HowHigh x, int s, int... want) {
        x.sheet(3, 2, 16);
        x.copy(s, 0, 3, 0, want.length);
        int r = x.rule(4, 0, 0, 3);
        for (int i = 0; i < want.length; i++) {
            due.is("number " + i, x.ruleTold(r, 4 + i), want[i]);
        }
    }

    private static void copies() {
        HowHigh x = new HowHigh();
        due.is("sheet", x.copy(4, 0, 0, 0, 0), HowHigh.BAD);
        due.is("sheet", x.copy(0, 0, 4, 0, 0), HowHigh.BAD);
        due.is("sheet", x.copy(-1, 0, 0, 0, 0), HowHigh.BAD);
        due.is("sheet", x.copy(0, 0, -1, 0, 0), HowHigh.BAD);
        due.is("missing", x.copy(0, 0, 1, 0, 0), -11);
        RulesTest.sheet(x, 0, 1, 2, 3, 4, 5);
        due.is("missing", x.copy(0, 0, 1, 0, 0), -11);
        due.is("missing", x.copy(1, 0, 0, 0, 0), -11);
        x.sheet(1, 1, 5);
        due.is("unlike", x.copy(0, 0, 1, 0, 1), -13);
        due.is("unlike ahead of outside", x.copy(0, 9, 1, 9, 9), -13);
        RulesTest.sheet(x, 1, 9, 9, 9);
        due.is("two", x.copy(0, 3, 1, 1, 2), 2);
        isRow(x, 1, 9, 4, 5);
        isRow(x, 0, 1, 2, 3, 4, 5);
        due.is("all", x.copy(0, 0, 1, 0, 3), 3);
        isRow(x, 1, 1, 2, 3);
        int[][] outside = {
            {0, 0, -1}, {-1, 0, 1}, {0, -1, 1}, {3, 0, 3}, {0, 1, 3}, {0, 0, 4}, {6, 0, 0}, {0, 4, 0}, {-1, 0, 0},
            {0, -1, 0}, {0, 0, Integer.MAX_VALUE}, {Integer.MAX_VALUE, 0, 1}, {0, Integer.MAX_VALUE, 1},
            {Integer.MAX_VALUE, 0, Integer.MAX_VALUE}, {0, 0, Integer.MIN_VALUE}, {Integer.MIN_VALUE, 0, 0},
        };
        for (int[] o : outside) {
            due.is("outside", x.copy(0, o[0], 1, o[1], o[2]), -12);
        }
        due.is("none at the ends", x.copy(0, 5, 1, 3, 0), 0);
        isRow(x, 1, 1, 2, 3);
    }

    private static void overlaps() {
        HowHigh x = new HowHigh();
        RulesTest.sheet(x, 0, 1, 2, 3, 4, 5);
        due.is("its own, up", x.copy(0, 0, 0, 1, 4), 4);
        isRow(x, 0, 1, 1, 2, 3, 4);
        due.is("its own, down", x.copy(0, 2, 0, 0, 3), 3);
        isRow(x, 0, 2, 3, 4, 3, 4);
    }

    private static void stormsBySheet() {
        HowHigh x = new HowHigh();
        RulesTest.sheet(x, 0, 7, 10, 100, 41, 1, 0, 901, 20, 5);
        due.is("one is bad", x.stormsBy(0, 2, 1, 2), 1);
        due.is("it came", x.count(5), 1);
        due.is("one is too many", x.stormsBy(0, 2, 5, 2), 1);
        due.is("it came", x.count(5), 2);
        x.path(1, 0, 0, 0);
        due.is("which", x.flood(0, 0, 9), 105);
        due.is("which", x.flood(0, 0, 0), 105);
        due.is("a half is outside", x.stormsBy(0, 2, 8, 1), -12);
        due.is("what stood ahead came", x.stormsBy(0, 2, 7, 2), -12);
        due.is("which", x.flood(0, 0, 10), 10);
        due.is("it came", x.count(5), 3);
        due.is("none", x.stormsBy(0, 2, 99, 0), 0);
        due.is("none", x.stormsBy(0, 2, -99, 0), 0);
        x.storm(1, 1);
        x.storm(1, 1);
        due.is("up to six", x.stormsBy(0, 2, 7, 1), 1);
        due.is("full", x.stormsBy(0, 2, 7, 1), 0);
        due.is("six", x.count(5), 6);
        HowHigh y = new HowHigh();
        y.sheet(2, 0, 12);
        for (int i = 0; i < 12; i++) {
            y.cell(2, i, i + 1);
        }
        due.is("six of bytes", y.stormsBy(2, 0, 0, 6), 6);
        HowHigh z = new HowHigh();
        z.sheet(2, 1, 2);
        z.cell(2, 0, 40);
        z.cell(2, 1, 1000);
        due.is("of shorts", z.stormsBy(2, 1, 0, 1), 1);
    }

    private static void stormsRefused() {
        HowHigh x = new HowHigh();
        due.is("sheet", x.stormsBy(4, 2, 0, 0), HowHigh.BAD);
        due.is("sheet", x.stormsBy(-1, 2, 0, 0), HowHigh.BAD);
        due.is("sort", x.stormsBy(0, 3, 0, 0), HowHigh.BAD);
        due.is("sort", x.stormsBy(0, -1, 0, 0), HowHigh.BAD);
        due.is("n", x.stormsBy(0, 2, 0, 7), HowHigh.BAD);
        due.is("n", x.stormsBy(0, 2, 0, -1), HowHigh.BAD);
        due.is("missing", x.stormsBy(0, 2, 0, 0), -11);
        RulesTest.sheet(x, 0, 1, 1);
        due.is("of another sort", x.stormsBy(0, 1, 0, 0), -13);
        due.is("sort ahead of place", x.stormsBy(0, 1, 9, 1), -13);
        due.is("place", x.stormsBy(0, 2, -1, 1), -12);
        due.is("place", x.stormsBy(0, 2, 2, 1), -12);
        due.is("place", x.stormsBy(0, 2, Integer.MAX_VALUE, 6), -12);
        due.is("place", x.stormsBy(0, 2, Integer.MIN_VALUE, 6), -12);
        due.is("none came", x.count(5), 0);
        x.sheet(0, 2, 40);
        due.is("the last place", x.stormsBy(0, 2, 39, 1), -12);
        due.is("behind it", x.stormsBy(0, 2, 40, 1), -12);
        x.cell(0, 39, 5);
        due.is("the last two", x.stormsBy(0, 2, 38, 1), 1);
    }

    private static void takenRules() {
        HowHigh x = new HowHigh();
        x.sheet(0, 0, 16);
        for (int kind = 0; kind < 6; kind++) {
            x.rule(kind, 0, 0, 0);
        }
        // By kinds: what each rule can be taken for, as bits.
        int[] taken = {1, 1 | 2, 1 | 4, 1 | 4 | 8, 1 | 16, 1 | 4 | 8 | 32};
        for (int r = 0; r < 6; r++) {
            for (int kind = 0; kind < 7; kind++) {
                due.is("rule " + r + " for " + kind, x.taken(8 + r, kind), (taken[r] >> kind & 1) != 0 ? r : -13);
            }
        }
        due.is("nothing", x.taken(14, 0), -11);
        due.is("nothing", x.taken(15, 6), -11);
        due.is("place", x.taken(16, 0), -12);
        due.is("place", x.taken(-1, 0), -12);
        due.is("kind", x.taken(8, 7), HowHigh.BAD);
        due.is("kind", x.taken(8, -1), HowHigh.BAD);
        due.is("kind ahead of place", x.taken(16, 7), HowHigh.BAD);
    }

    private static void takenStreets() {
        HowHigh x = new HowHigh();
        due.is("nothing", x.taken(0, 6), -11);
        x.street(5, 77);
        x.street(6, 0);
        due.is("its worth", x.taken(0, 6), 77);
        due.is("its worth", x.taken(1, 6), 0);
        for (int kind = 0; kind < 6; kind++) {
            due.is("no rule", x.taken(0, kind), -13);
        }
        due.is("nothing", x.taken(2, 6), -11);
        due.is("nothing", x.taken(7, 0), -11);
        for (int t = 2; t < 8; t++) {
            x.street(t, 10 * t);
            due.is("street " + t, x.taken(t, 6), 10 * t);
        }
        due.is("no rule", x.taken(7, 0), -13);
        due.is("no rule there", x.taken(8, 0), -11);
    }
}
