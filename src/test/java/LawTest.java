/** Promises 16 to 18: the tape, texts, the law. */
public final class LawTest {
    private static final Due due = new Due("LawTest");

    public static void main(String[] args) {
        feeding();
        texts();
        faults();
        wordsElsewhere();
        depth();
        values();
        forcing();
        due.end();
    }

    /** Puts signs on the tape, up to eight at once. */
    static void tape(HowHigh x, String signs) {
        for (int i = 0; i < signs.length(); i += 8) {
            int n = Math.min(8, signs.length() - i);
            long w = 0;
            for (int k = 0; k < n; k++) {
                w = w << 8 | signs.charAt(i + k);
            }
            x.feed(w, n);
        }
    }

    static int read(HowHigh x, String signs) {
        tape(x, signs);
        return x.text();
    }

    /** Makes a text the law. */
    static void law(HowHigh x, String signs) {
        int t = read(x, signs);
        due.holds("it is a text: " + signs, t > 0);
        x.force(t);
    }

    private static void feeding() {
        HowHigh x = new HowHigh();
        due.is("too few", x.feed(0, 0), HowHigh.BAD);
        due.is("too many", x.feed(0, 9), HowHigh.BAD);
        due.is("too few", x.feed(0, -1), HowHigh.BAD);
        due.is("one", x.feed('h', 1), 1);
        due.is("the highest first", x.feed(0x78_61_72_6dL, 3), 4);
        tape(x, " 1;cost 2;grow 3;");
        due.is("its lowest bytes in order", x.text(), 1);
        for (int i = 1; i <= 20; i++) {
            due.is("eight", x.feed(-1, 8), 8 * i);
        }
        due.is("full", x.feed(0, 1), HowHigh.FULL);
        due.is("bad ahead of full", x.feed(0, 0), HowHigh.BAD);
        due.is("a byte that begins no token", x.text(), -100);
        for (int i = 1; i <= 19; i++) {
            x.feed(0, 8);
        }
        x.feed(0, 1);
        due.is("nothing of it comes", x.feed(0, 8), HowHigh.FULL);
        due.is("nothing came", x.count(11), 153);
        due.is("up to the end", x.feed(0, 7), 160);
    }

    private static void texts() {
        HowHigh x = new HowHigh();
        due.is("plain", read(x, "harm over;cost up;grow year;"), 1);
        due.is("the tape is empty", x.count(11), 0);
        due.is("blanks", read(x, "  harm\nover ;\ncost\n\nup;grow year ; \n"), 2);
        due.is("a fault", read(x, "harm"), -104);
        due.is("the tape is empty", x.count(11), 0);
        due.is("none came", x.count(9), 3);
        due.is("third", read(x, "harm 1;cost 1;grow 1;"), 3);
        due.is("fourth", read(x, "harm 1;cost 1;grow 1;"), 4);
        due.is("fifth", read(x, "harm 1;cost 1;grow 1;"), 5);
        due.is("full", read(x, "harm 1;cost 1;grow 1;"), HowHigh.FULL);
        due.is("the tape stays", x.count(11), 21);
        due.is("full ahead of a fault", read(x, "?"), HowHigh.FULL);
        due.is("the tape stays", x.count(11), 22);
    }

    private static void fault(String signs, int place) {
        due.is("fault of <" + signs + ">", read(new HowHigh(), signs), -100 - place);
    }

    private static void faults() {
        fault("", 0);
        fault(" \n ", 3);
        fault("harm", 4);
        fault("harm 1", 6);
        fault("harm 1 ", 7);
        fault("harm 1; ", 8);
        fault("harm 1;cost 2;grow 3", 20);
        fault("harm 1;cost 2;grow 3;;", 21);
        fault("harm 1;cost 2;grow 3; harm", 22);
        fault("cost 1;", 0);
        fault("harm 1;grow 2;", 7);
        fault("harm 1;cost 2;harm", 14);
        fault("harm ;", 5);
        fault("harm 1 2;", 7);
        fault("harm 12345;", 5);
        fault("harm 00001;", 5);
        fault("harm over +;", 11);
        fault("harm over * * 2;", 12);
        fault("harm overt;", 5);
        fault("harm Over;", 5);
        fault("harm ove;", 5);
        fault("harmover;", 0);
        fault("harm 1over;", 6);
        fault("harm over2;", 9);
        fault("harm over > 2;", 10);
        fault("harm\tover;", 4);
        fault("harm\rover;", 4);
        fault("harm 1 < 2 < 3;", 11);
        fault("harm 1 = 2 = 3;", 11);
        fault("harm 1 < 2 = 3;", 11);
        fault("harm 1 < not 2;", 9);
        fault("harm 1 + not 2;", 9);
        fault("harm - not 2;", 7);
        fault("harm 1 * not 2;", 9);
        fault("harm not;", 8);
        fault("harm not or;", 9);
        fault("harm 1 and;", 10);
        fault("harm 1 or;", 9);
        fault("harm (1;", 7);
        fault("harm (1));", 8);
        fault("harm ();", 6);
        fault("harm );", 5);
        fault("harm 1 cost;", 7);
        fault("harm cost;", 5);
        fault("harm \u00e9;", 5);
        fault("harm 1{", 6);
        fault("harm `;", 5);
        fault("harm 1:;", 6);
        fault("harm 1/2;", 6);
        fault("harm or 1;", 5);
        fault("harm < 1;", 5);
        fault("harm + 1;", 5);
        fault("harm overz;", 5);
        fault("harm zover;", 5);
        fault("harm aover;", 5);
        fault("harm 1;cost 2;grow 3;5", 21);
        fault("harm 1;cost 2;grow 3;?", 21);
        fault("harm 1;cost 2;grow 3; up", 22);
        fault("harm 1;cost (2;grow 3;", 14);
        fault("harm 1;cost 2;grow (3;", 21);
    }

    /** Each word where a part begins, where a one is due, and behind a one. */
    private static void wordsElsewhere() {
        String[] words = {
            "over", "behind", "wall", "level", "year", "up", "harm", "cost", "grow", "or", "and", "not", "x", "7",
        };
        for (int i = 0; i < words.length; i++) {
            String word = words[i];
            if (i != 6) {
                fault(word + " 1;cost 1;grow 1;", 0);
            }
            if (i != 7) {
                fault("harm 1;" + word + " 1;grow 1;", 7);
            }
            if (i != 8) {
                fault("harm 1;cost 1;" + word + " 1;", 14);
            }
            if (i >= 6 && i != 11 && i != 13) {
                fault("harm " + word + " 1;", 5);
            }
            if (i >= 6 && i != 13) {
                fault("harm 1 * " + word + " 1;", 9);
            }
            if (i != 9 && i != 10) {
                fault("harm 1 " + word + " 1;", 7);
            }
        }
    }

    private static void depth() {
        String rest = ";cost 1;grow 1;";
        due.is("five", read(new HowHigh(), "harm (((((1)))))" + rest), 1);
        fault("harm ((((((1))))))" + rest, 10);
        due.is("five", read(new HowHigh(), "harm - - - - - 1" + rest), 1);
        fault("harm ------1" + rest, 10);
        due.is("five", read(new HowHigh(), "harm not not not not not 1" + rest), 1);
        fault("harm not not not not not not 1" + rest, 25);
        due.is("closed ones do not count", read(new HowHigh(), "harm ((((1))))*(((((2)))))+-----3" + rest), 1);
        due.is("between ones do not count", read(new HowHigh(), "harm (((((1-2-3-4)))))" + rest), 1);
        fault("harm (((((1--2)))))" + rest, 12);
        fault("harm ((((not -1))))" + rest, 13);
        fault("harm ((((-(1)))))" + rest, 10);
        fault("harm (((((not 1)))))" + rest, 10);
        due.is("a not ends", read(new HowHigh(), "harm not not 1 and not not not not not 2" + rest), 1);
        due.is("a not ends", read(new HowHigh(), "harm not 1 or (((((2)))))" + rest), 1);
        due.is("a - ends", read(new HowHigh(), "harm -1*(((((2)))))" + rest), 1);
        fault("harm not 1<(((((2)))))" + rest, 15);
        fault("harm -(((((1)))))" + rest, 10);
        due.is("five in each part", read(new HowHigh(), "harm (((((1)))));cost -----1;grow not (not (not 1));"), 1);
        due.is("five in each part", read(new HowHigh(), "harm 1;cost (((((1)))));grow (((((1)))));"), 1);
        fault("harm 1;cost ((((((1))))));grow 1;", 17);
        fault("harm 1;cost 1;grow ((((((1))))));", 24);
    }

    /** What an E is, by what a wall costs: year 4, wall 7, behind 30, raised by 3, broad. */
    private static void value(String e, int want) {
        HowHigh x = new HowHigh();
        x.set(3, 1);
        tape(x, "harm 0;cost " + e + ";grow 0;");
        due.is("force of " + e, x.force(x.text()), 0);
        due.is(e, x.cost(3, 7, 4, 30), want);
    }

    private static void values() {
        value("9999", 9999);
        value("0007", 7);
        value("over", 1);
        value("behind", 30);
        value("wall", 7);
        value("level", 0);
        value("year", 4);
        value("up", 3);
        value("1 + 2 * 3", 7);
        value("(1 + 2) * 3", 9);
        value("20 - 5 - 3", 12);
        value("20 - 5 + 3", 18);
        value("2 - -3", 5);
        value("- 2 + 7", 5);
        value("- 2 * - 3", 6);
        value("--5", 5);
        value("(7 = 7) * 5", 5);
        value("7 = 8", 0);
        value("7 < 8", 1);
        value("8 < 8", 0);
        value("8 < 7", 0);
        value("1 + 2 < 2 * 2", 1);
        value("2 and 4", 1);
        value("2 and 0", 0);
        value("0 and 2", 0);
        value("0 or 0", 0);
        value("0 or 5", 1);
        value("5 or 0", 1);
        value("- 5 or 0", 1);
        value("not 0", 1);
        value("not 5", 0);
        value("not not 5", 1);
        value("not 1 < 2", 0);
        value("not 0 and 0", 0);
        value("not (0 and 0)", 1);
        value("1 or 0 and 0", 1);
        value("(1 or 0) and 0", 0);
        value("not 1 or 1", 1);
        value("3 and 1 < 2", 1);
        value("1 or 1 or 0", 1);
        value("1 and 1 and 0", 0);
        value("9999 * 9999 * 9999 * 9999 < 0", 9999 * 9999 * 9999 * 9999 < 0 ? 1 : 0);
        value("9999 * 9999 * 22 < 0", 1);
        value("5 * (3 + 2) * 2 - (1 + (2 - 3) * 4)", 53);
        value("0 - 5", 0);
        value("9999 + 1", 9999);
    }

    private static void forcing() {
        HowHigh x = CoastTest.coast();
        due.is("none such", x.force(1), HowHigh.BAD);
        due.is("none such", x.force(-1), HowHigh.BAD);
        due.is("none such", x.force(6), HowHigh.BAD);
        read(x, "harm 1;cost 2;grow 3;");
        read(x, "harm 10;cost 20;grow 30;");
        due.is("a text is no law yet", x.cost(1, 10, 0, 0), 30);
        due.is("which was", x.force(2), 0);
        due.is("its cost", x.cost(1, 10, 0, 0), 20);
        due.is("its harm", x.harm(0, 0, 0, 5), 1350);
        due.is("its growth", x.behindThen(1), 130);
        due.is("which was", x.force(1), 2);
        due.is("its cost", x.cost(1, 10, 0, 0), 2);
        due.is("none such", x.force(3), HowHigh.BAD);
        due.is("it stays", x.force(0), 1);
        due.is("the first", x.cost(1, 10, 0, 0), 30);
        due.is("the same again", x.force(0), 0);
    }
}
