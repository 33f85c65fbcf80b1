/** Promises 48 to 52, each sentence that names a boundary: sheets, what is taken from them and for what. */
public final class EdgesHostTest {
    private static final Due due = new Due("EdgesHostTest");
    private static final int BAD = HowHigh.BAD;
    private static final int LOWEST = Integer.MIN_VALUE, HIGHEST = Integer.MAX_VALUE;

    public static void main(String[] args) {
        p48size();
        p48sorts();
        p48missing();
        p48refused();
        p49places();
        p49bits();
        p50places();
        p50ends();
        p50own();
        p50sorts();
        p51places();
        p51wherever();
        p51leftOut();
        p51aheadOfOutside();
        p51sorts();
        p52places();
        p52kinds();
        p52order();
        due.end();
    }

    /** A row of n, all 0; n above 40; -14. */
    private static void p48size() {
        for (int s = 0; s < 4; s++) {
            for (int sort = 0; sort < 3; sort++) {
                HowHigh x = new HowHigh();
                due.is("48 41", x.sheet(s, sort, 41), BAD);
                due.is("48 -1", x.sheet(s, sort, -1), -14);
                due.is("48 the lowest", x.sheet(s, sort, LOWEST), -14);
                due.is("48 the highest", x.sheet(s, sort, HIGHEST), BAD);
                due.is("48 still missing", x.cell(s, 0, 0), -11);
                for (int n : new int[] {0, 1, 39, 40}) {
                    due.is("48 of " + n, x.sheet(s, sort, n), 1);
                    due.is("48 its last", x.cell(s, n - 1, 1), n == 0 ? -12 : 1);
                    due.is("48 behind its last", x.cell(s, n, 1), -12);
                    due.is("48 -1", x.sheet(s, sort, -1), -14);
                    due.is("48 41", x.sheet(s, sort, 41), BAD);
                    due.is("48 as it was", x.copy(s, n, s, 0, 0), 0);
                    due.is("48 as it was", x.copy(s, n + 1, s, 0, 0), -12);
                }
            }
        }
    }

    /** A SHEET becomes a row of a sort, all 0, whatever it was. */
    private static void p48sorts() {
        for (int was = 0; was < 3; was++) {
            for (int sort = 0; sort < 3; sort++) {
                HowHigh x = new HowHigh();
                x.sheet(0, was, 16);
                for (int i = 0; i < 16; i++) {
                    x.cell(0, i, 20);
                }
                x.sheet(0, sort, 16);
                for (int k = 0; k < 3; k++) {
                    due.is("48 of sort " + sort, x.stormsBy(0, k, 0, 0), k == sort ? 0 : -13);
                }
                due.is("48 a row of 16", x.rule(4, 0, 0, 0), 0);
                for (int y = 0; y < 16; y++) {
                    due.is("48 all 0", x.ruleTold(0, 4 + y), 0);
                }
            }
        }
        HowHigh x = new HowHigh();
        x.sheet(0, 2, 40);
        x.cell(0, 39, 7);
        x.sheet(0, 2, 1);
        x.sheet(0, 2, 40);
        due.is("48 what lay behind is 0, too", x.stormsBy(0, 2, 38, 1), 0);
        due.is("48 no storm came", x.count(5), 0);
    }

    /** Or missing (sort -1: n does not matter). */
    private static void p48missing() {
        HowHigh x = new HowHigh();
        for (int n : new int[] {0, 5, 40, 41, -1, HIGHEST, LOWEST}) {
            due.is("48 a row", x.sheet(1, 2, 3), 1);
            due.is("48 missing, n " + n, x.sheet(1, -1, n), 1);
            due.is("48 it is missing", x.cell(1, 0, 0), -11);
            due.is("48 missing again, n " + n, x.sheet(1, -1, n), 1);
        }
        due.is("48 missing, but no such sheet", x.sheet(4, -1, 0), BAD);
        due.is("48 missing, but no such sheet", x.sheet(-1, -1, 0), BAD);
        x.sheet(1, 2, 3);
        due.is("48 the others are missing still", x.cell(0, 0, 0), -11);
        due.is("48 the others are missing still", x.cell(2, 0, 0), -11);
    }

    private static void p48refused() {
        Twins some = new Twins(due, Scene::some);
        for (int n : new int[] {41, HIGHEST, -1, LOWEST}) {
            some.refused("48 n " + n, x -> x.sheet(0, 2, n), n > 0 ? BAD : -14);
            some.refused("48 no such sort, n " + n, x -> x.sheet(0, 3, n), BAD);
            some.refused("48 no such sheet, n " + n, x -> x.sheet(4, 2, n), BAD);
        }
    }

    private static void p49places() {
        HowHigh x = new HowHigh();
        due.is("49 missing", x.cell(0, 0, 0), -11);
        due.is("49 missing, no such place", x.cell(0, -1, 0), -11);
        due.is("49 no such sheet", x.cell(4, -1, 0), BAD);
        due.is("49 no such sheet", x.cell(LOWEST, 0, 0), BAD);
        x.sheet(0, 2, 40);
        for (int i : new int[] {-1, 40, 41, HIGHEST, LOWEST}) {
            due.is("49 place " + i, x.cell(0, i, 1), -12);
        }
        due.is("49 the first", x.cell(0, 0, LOWEST), 1);
        due.is("49 the last", x.cell(0, 39, HIGHEST), 1);
        Twins some = new Twins(due, Scene::some);
        some.refused("49 behind the last", y -> y.cell(0, 16, 19), -12);
        some.refused("49 ahead of the first", y -> y.cell(0, -1, 19), -12);
        some.refused("49 missing", y -> y.cell(3, 0, 19), -11);
    }

    /** Of bytes, shorts its lowest 8, 16 bits (with their sign). */
    private static void p49bits() {
        int[] put = {0, 127, 128, 129, 255, 256, 261, 32767, 32768, 65535, 65536, 65541, -1, -128, -129, -251, -32768,
            -32769, -65531, HIGHEST, LOWEST, LOWEST + 5};
        for (int sort = 0; sort < 3; sort++) {
            for (int v : put) {
                int is = sort == 0 ? (byte) v : sort == 1 ? (short) v : v;
                HowHigh x = new HowHigh();
                x.path(1, 0, 0, 0);
                x.town(60, 0);
                x.sheet(0, sort, 1);
                due.is("49 it is put", x.cell(0, 0, v), 1);
                int want = is < 0 || is > 99999 ? BAD : is > 0 ? 1 : -1;
                due.is("49 a part of " + v + ", of sort " + sort, x.join(0, 0, 0, 1000), want);
                x.set(0, 1);
                due.is("49 a raising of " + v + ", of sort " + sort, x.judge(0, 0), is < 0 || is > 20 ? BAD : -1);
            }
        }
    }

    /** A sheet of ints with the numbers 1, 2, .. n. */
    private static HowHigh numbered(int n) {
        HowHigh x = new HowHigh();
        x.sheet(0, 2, n);
        for (int i = 0; i < n; i++) {
            x.cell(0, i, i + 1);
        }
        return x;
    }

    /** A sheet of up to 16 numbers 0 .. 20. */
    private static void isRow(String call, HowHigh x, int s, int... want) {
        int sort = x.stormsBy(s, 2, 0, 0) == 0 ? 2 : x.stormsBy(s, 1, 0, 0) == 0 ? 1 : 0;
        x.sheet(3, sort, 16);
        due.is(call, x.copy(s, 0, 3, 0, want.length), want.length);
        due.is(call + ", no more of them", x.copy(s, want.length + 1, 3, 0, 0), -12);
        int r = x.rule(4, 0, 0, 3);
        for (int i = 0; i < want.length; i++) {
            due.is(call + ", number " + i, x.ruleTold(r, 4 + i), want[i]);
        }
    }

    /** N numbers of a SHEET, from i on, come to another one's place j: n. */
    private static void p50places() {
        HowHigh x = numbered(5);
        x.sheet(1, 2, 4);
        due.is("50 one", x.copy(0, 4, 1, 3, 1), 1);
        isRow("50 the last to the last", x, 1, 0, 0, 0, 5);
        due.is("50 four", x.copy(0, 1, 1, 0, 4), 4);
        isRow("50 all but the first", x, 1, 2, 3, 4, 5);
        due.is("50 four", x.copy(0, 0, 1, 0, 4), 4);
        isRow("50 all but the last", x, 1, 1, 2, 3, 4);
        isRow("50 they stay", x, 0, 1, 2, 3, 4, 5);
        int[][] outside = {
            {0, 0, 5}, {2, 0, 4}, {0, 1, 4}, {4, 3, 2}, {4, 0, 2}, {0, 3, 2}, {-1, 0, 1}, {0, -1, 1}, {5, 0, 1}, {0, 4, 1},
            {0, 0, -1}, {1, 1, -1}, {0, 0, LOWEST}, {0, 0, HIGHEST}, {HIGHEST, 0, 1}, {0, HIGHEST, 1}, {LOWEST, 0, 1},
            {0, LOWEST, 1}, {HIGHEST, HIGHEST, HIGHEST}, {LOWEST, LOWEST, LOWEST}, {1, 1, HIGHEST}, {-1, 0, 2}, {0, -1, 2},
            {HIGHEST, 0, LOWEST}, {HIGHEST, HIGHEST, 1}, {-5, -5, -5},
        };
        for (int[] o : outside) {
            due.is("50 from " + o[0] + " to " + o[1] + ", " + o[2], x.copy(0, o[0], 1, o[1], o[2]), -12);
        }
        isRow("50 nothing came", x, 1, 1, 2, 3, 4);
        isRow("50 nothing came", x, 0, 1, 2, 3, 4, 5);
    }

    /** Beyond the end with n 0, too. */
    private static void p50ends() {
        HowHigh x = numbered(5);
        x.sheet(1, 2, 0);
        due.is("50 none from the end", x.copy(0, 5, 1, 0, 0), 0);
        due.is("50 none to the end", x.copy(1, 0, 0, 5, 0), 0);
        due.is("50 none from beyond the end", x.copy(0, 6, 1, 0, 0), -12);
        due.is("50 none to beyond the end", x.copy(1, 0, 0, 6, 0), -12);
        due.is("50 none from beyond an empty one", x.copy(1, 1, 0, 0, 0), -12);
        due.is("50 none to beyond an empty one", x.copy(0, 0, 1, 1, 0), -12);
        due.is("50 none from ahead", x.copy(0, -1, 1, 0, 0), -12);
        due.is("50 none to ahead", x.copy(0, 0, 1, -1, 0), -12);
        due.is("50 none from far out", x.copy(0, HIGHEST, 1, 0, 0), -12);
        due.is("50 none from far out", x.copy(0, LOWEST, 1, 0, 0), -12);
        due.is("50 one to an empty one", x.copy(0, 0, 1, 0, 1), -12);
        due.is("50 one of an empty one", x.copy(1, 0, 0, 0, 1), -12);
        x.sheet(2, 2, 40);
        x.sheet(1, 2, 40);
        due.is("50 all 40", x.copy(1, 0, 2, 0, 40), 40);
        due.is("50 41", x.copy(1, 0, 2, 0, 41), -12);
        due.is("50 none at 40", x.copy(1, 40, 2, 40, 0), 0);
    }

    /** Or its own (as they were). */
    private static void p50own() {
        HowHigh x = numbered(6);
        due.is("50 up by one", x.copy(0, 0, 0, 1, 5), 5);
        isRow("50 up by one", x, 0, 1, 1, 2, 3, 4, 5);
        due.is("50 down by two", x.copy(0, 2, 0, 0, 4), 4);
        isRow("50 down by two", x, 0, 2, 3, 4, 5, 4, 5);
        due.is("50 to where they are", x.copy(0, 0, 0, 0, 6), 6);
        isRow("50 to where they are", x, 0, 2, 3, 4, 5, 4, 5);
        due.is("50 side by side", x.copy(0, 0, 0, 3, 3), 3);
        isRow("50 side by side", x, 0, 2, 3, 4, 2, 3, 4);
        due.is("50 beyond its end", x.copy(0, 0, 0, 1, 6), -12);
        due.is("50 none beyond its end", x.copy(0, 7, 0, 0, 0), -12);
        isRow("50 beyond its end", x, 0, 2, 3, 4, 2, 3, 4);
    }

    /** BAD: SHEETS; -11; -13: unlike sorts; -12. */
    private static void p50sorts() {
        for (int a = -1; a < 3; a++) {
            for (int b = -1; b < 3; b++) {
                HowHigh x = new HowHigh();
                x.sheet(0, a, 3);
                x.sheet(1, b, 3);
                boolean missing = a < 0 || b < 0;
                due.is("50 sorts " + a + ", " + b, x.copy(0, 0, 1, 0, 3), missing ? -11 : a == b ? 3 : -13);
                due.is("50 none", x.copy(0, 0, 1, 0, 0), missing ? -11 : a == b ? 0 : -13);
                due.is("50 outside", x.copy(0, 9, 1, 0, 3), missing ? -11 : a == b ? -12 : -13);
                due.is("50 no such sheet", x.copy(0, 9, 4, 0, 3), BAD);
                due.is("50 no such sheet", x.copy(-1, 9, 1, 0, 3), BAD);
            }
        }
    }

    /** From a place on, two by two, n of them (0 .. 6). */
    private static void p51places() {
        for (int n = 1; n <= 6; n++) {
            HowHigh x = numbered(14);
            due.is("51 " + n + " at the end", x.stormsBy(0, 2, 14 - 2 * n, n), n);
            due.is("51 all of them came", x.count(5), n);
            due.is("51 one more is full", x.stormsBy(0, 2, 0, 1), n == 6 ? 0 : 1);
        }
        HowHigh x = numbered(14);
        due.is("51 seven", x.stormsBy(0, 2, 0, 7), BAD);
        due.is("51 less than none", x.stormsBy(0, 2, 0, -1), BAD);
        for (int at : new int[] {-1, -2, 13, 14, 15, HIGHEST, HIGHEST - 1, HIGHEST - 11, LOWEST, LOWEST + 1}) {
            due.is("51 at " + at, x.stormsBy(0, 2, at, 1), -12);
            due.is("51 six at " + at, x.stormsBy(0, 2, at, 6), -12);
            due.is("51 none came", x.count(5), 0);
        }
        due.is("51 the last two", x.stormsBy(0, 2, 12, 1), 1);
        x.path(1, 0, 0, 0);
        due.is("51 HEIGHT 13, 14 of them", x.flood(0, 0, 12), 14);
        due.is("51 HEIGHT 13, 14 of them", x.flood(0, 0, 13), 0);
    }

    /** N 0: 0, wherever. */
    private static void p51wherever() {
        HowHigh x = numbered(4);
        for (int at : new int[] {0, 3, 4, 5, 99, -1, HIGHEST, LOWEST}) {
            due.is("51 none at " + at, x.stormsBy(0, 2, at, 0), 0);
            due.is("51 none at " + at + " of another sort", x.stormsBy(0, 1, at, 0), -13);
            due.is("51 none at " + at + " of a missing one", x.stormsBy(1, 2, at, 0), -11);
            due.is("51 none at " + at + " of no sheet", x.stormsBy(4, 2, at, 0), BAD);
        }
        x.sheet(0, 2, 0);
        due.is("51 none of an empty one", x.stormsBy(0, 2, 0, 0), 0);
        due.is("51 one of an empty one", x.stormsBy(0, 2, 0, 1), -12);
        due.is("51 none came", x.count(5), 0);
    }

    /** How many came (others are left out). */
    private static void p51leftOut() {
        HowHigh x = new HowHigh();
        x.path(1, 0, 0, 0);
        RulesTest.sheet(x, 0, 41, 1, 40, 600, -1, 1, 39, 401, 38, 0, 37, 400);
        due.is("51 two of six", x.stormsBy(0, 2, 0, 6), 2);
        due.is("51 two came", x.count(5), 2);
        due.is("51 40", x.flood(0, 0, 39), 600);
        due.is("51 and 37", x.flood(0, 0, 36), 1000);
        due.is("51 none more", x.stormsBy(0, 2, 0, 6), 0);
        HowHigh y = new HowHigh();
        y.path(1, 0, 0, 0);
        for (int s = 0; s < 4; s++) {
            y.storm(0, 1);
        }
        RulesTest.sheet(y, 0, 10, 1, 11, 2, 12, 4, 13, 8);
        due.is("51 as many as there is room for", y.stormsBy(0, 2, 0, 4), 2);
        due.is("51 the first two", y.flood(0, 0, 9), 3);
        due.is("51 six", y.count(5), 6);
    }

    /** -12: what stood ahead came. */
    private static void p51aheadOfOutside() {
        HowHigh x = numbered(5);
        x.path(1, 0, 0, 0);
        due.is("51 a half is outside", x.stormsBy(0, 2, 0, 3), -12);
        due.is("51 two came", x.count(5), 2);
        due.is("51 two came", x.flood(0, 0, 0), 2 + 4);
        due.is("51 all is outside", x.stormsBy(0, 2, 1, 3), -12);
        due.is("51 two more came", x.count(5), 4);
        due.is("51 two more came", x.flood(0, 0, 0), 2 + 4 + 3 + 5);
        due.is("51 outside at once", x.stormsBy(0, 2, 4, 1), -12);
        due.is("51 none came", x.count(5), 4);
        x.cell(0, 1, 0);
        due.is("51 one that is left out, and one", x.stormsBy(0, 2, 0, 6), -12);
        due.is("51 one came", x.count(5), 5);
    }

    /** By a SHEET of a sort. */
    private static void p51sorts() {
        for (int sort = -1; sort < 3; sort++) {
            for (int asked = -1; asked < 4; asked++) {
                HowHigh x = new HowHigh();
                x.sheet(0, sort, 2);
                x.cell(0, 0, 40);
                x.cell(0, 1, 100);
                boolean none = asked < 0 || asked > 2;
                int want = none ? BAD : sort < 0 ? -11 : sort == asked ? 1 : -13;
                due.is("51 of sort " + sort + ", asked for " + asked, x.stormsBy(0, asked, 0, 1), want);
                due.is("51 how many", x.count(5), want == 1 ? 1 : 0);
                due.is("51 outside", x.stormsBy(0, asked, 1, 1), want == 1 ? -12 : want);
                due.is("51 seven", x.stormsBy(0, asked, 0, 7), BAD);
            }
        }
        int[] sorts = {0, 0, 1, 2};
        int[] put = {256 + 100, 200, 65536 + 1000, 1000};
        int[] want = {1, 0, 1, 1};
        for (int i = 0; i < 4; i++) {
            HowHigh x = new HowHigh();
            x.path(1, 0, 0, 0);
            x.sheet(0, sorts[i], 2);
            x.cell(0, 1, put[i]);
            due.is("51 of sort " + sorts[i] + ", " + put[i], x.stormsBy(0, sorts[i], 0, 1), want[i]);
        }
    }

    /** 0 .. 7 STREETS, 8 .. 15 RULES. */
    private static void p52places() {
        HowHigh x = new HowHigh();
        for (int i = 0; i < 16; i++) {
            due.is("52 nothing at " + i, x.taken(i, 0), -11);
            due.is("52 nothing at " + i, x.taken(i, 6), -11);
        }
        for (int i = 0; i < 8; i++) {
            x.street(i, 100 + i);
            x.rule(0, i, 0, 0);
            due.is("52 a street at " + i, x.taken(i, 6), 100 + i);
            due.is("52 a rule at " + (8 + i), x.taken(8 + i, 0), i);
            due.is("52 a street at " + i + " is no rule", x.taken(i, 0), -13);
            due.is("52 a rule at " + (8 + i) + " is no street", x.taken(8 + i, 6), -13);
            due.is("52 nothing behind it", x.taken(i + 1, 6), i == 7 ? -13 : -11);
            due.is("52 nothing behind it", x.taken(9 + i, 0), i == 7 ? -12 : -11);
        }
        for (int i : new int[] {-1, 16, 17, HIGHEST, LOWEST}) {
            due.is("52 at " + i, x.taken(i, 0), -12);
            due.is("52 at " + i, x.taken(i, 6), -12);
        }
        HowHigh y = new HowHigh();
        y.street(60, 999);
        y.street(0, 0);
        due.is("52 WORTH 999", y.taken(0, 6), 999);
        due.is("52 WORTH 0", y.taken(1, 6), 0);
    }

    /** Taken for 0 .. 5 a RULE of that KIND (also of one that is one). */
    private static void p52kinds() {
        // By KIND of what lies there: what it is, RULE, LAW, STEP, WAIT, TOLD, BACK.
        boolean[][] is = {
            {true, false, false, false, false, false},
            {true, true, false, false, false, false},
            {true, false, true, false, false, false},
            {true, false, true, true, false, false},
            {true, false, false, false, true, false},
            {true, false, true, true, false, true},
        };
        HowHigh x = new HowHigh();
        x.sheet(0, 2, 16);
        for (int kind = 5; kind >= 0; kind--) {
            x.rule(kind, 0, 0, 0);
        }
        for (int r = 0; r < 6; r++) {
            for (int kind = 0; kind < 6; kind++) {
                due.is("52 a rule of KIND " + (5 - r) + " for " + kind, x.taken(8 + r, kind), is[5 - r][kind] ? r : -13);
            }
            due.is("52 a rule of KIND " + (5 - r) + " for a street", x.taken(8 + r, 6), -13);
        }
    }

    /** BAD: kind; -12: i; -11; -13. */
    private static void p52order() {
        Twins some = new Twins(due, Scene::some);
        for (int kind : new int[] {-1, 7, HIGHEST, LOWEST}) {
            for (int i : new int[] {-1, 0, 7, 8, 15, 16}) {
                some.refused("52 place " + i + ", kind " + kind, x -> x.taken(i, kind), BAD);
            }
        }
        for (int i : new int[] {-1, 16}) {
            some.refused("52 place " + i, x -> x.taken(i, 3), -12);
        }
        some.refused("52 nothing lies there", x -> x.taken(2, 6), -11);
        some.refused("52 nothing lies there", x -> x.taken(2, 0), -11);
        some.refused("52 nothing lies there", x -> x.taken(12, 0), -11);
        some.refused("52 a street for a rule", x -> x.taken(0, 0), -13);
        some.refused("52 a LAW for a STEP", x -> x.taken(8, 2), -13);
        some.refused("52 a LAW for a street", x -> x.taken(8, 6), -13);
    }
}
