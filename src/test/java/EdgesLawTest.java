/** Promises 16 to 18, each sentence that names a boundary: THE TAPE, TEXTS, FAULTS, THE LAW. */
public final class EdgesLawTest {
    private static final Due due = new Due("EdgesLawTest");
    private static final int BAD = HowHigh.BAD, FULL = HowHigh.FULL;

    public static void main(String[] args) {
        p16bytes();
        p16order();
        p16full();
        p17wholeTape();
        p17endsTooEarly();
        p17tapeIsEmpty();
        p17full();
        p17blanks();
        p17everyByte();
        p17longTokens();
        p17letters();
        p17digits();
        p17parts();
        p17notBelow();
        p17open();
        p17openEnds();
        p17openBesideSigns();
        p17ways();
        p17deep();
        p17wraps();
        p17truth();
        p18force();
        due.end();
    }

    /** BAD: n not 1 .. 8. */
    private static void p16bytes() {
        HowHigh x = new HowHigh();
        due.is("16 none", x.feed(97, 0), BAD);
        due.is("16 nine", x.feed(97, 9), BAD);
        due.is("16 less than none", x.feed(97, -1), BAD);
        due.is("16 none came", x.count(11), 0);
        int size = 0;
        for (int n = 1; n <= 8; n++) {
            size += n;
            due.is("16 " + n, x.feed(0x2020202020202020L, n), size);
            due.is("16 " + n + " came", x.count(11), size);
        }
        due.is("16 all are blank", x.text(), -100 - 36);
    }

    /** The n lowest bytes of w, the highest first, come behind THE TAPE's. */
    private static void p16order() {
        HowHigh x = new HowHigh();
        x.feed(0xff_68_61_72_6d_20_31_3bL, 7);
        x.feed(0xffff_63_6f_73_74_20L, 5);
        x.feed(0xffff_ffff_ffff_ff32L, 1);
        x.feed(0x3b67_726f_7720_333bL, 8);
        due.is("16 in order", x.text(), 1);
        x.force(1);
        due.is("16 the cost", x.cost(1, 0, 0, 0), 2);
        due.is("16 the growth", x.behindThen(1), 103);
        due.is("16 a byte with its highest bit", x.feed(-1, 1), 1);
        due.is("16 begins no token", x.text(), -100);
        due.is("16 a letter less one", x.feed(0x60, 1), 1);
        due.is("16 begins no token", x.text(), -100);
    }

    /** 160 bytes at most. */
    private static void p16full() {
        for (int n = 1; n <= 8; n++) {
            HowHigh x = new HowHigh();
            int size = 0;
            while (size + 8 <= 160 - n + 1) {
                size = x.feed(0x2020202020202020L, 8);
            }
            while (size < 160 - n + 1) {
                size = x.feed(0x20, 1);
            }
            due.is("16 one too many of " + n, x.feed(-1, n), FULL);
            due.is("16 not one of them came", x.count(11), 161 - n);
            due.is("16 n ahead of that", x.feed(-1, 0), BAD);
            if (n > 1) {
                due.is("16 one less", x.feed(0x2020202020202020L, n - 1), 160);
            }
            due.is("16 not one of them came", x.text(), -260);
        }
    }

    private static final String PLAIN = "harm 1;cost 2;grow 3;";

    private static int read(String signs) {
        return LawTest.read(new HowHigh(), signs);
    }

    private static String blanks(int n) {
        return " ".repeat(n);
    }

    private static void p17wholeTape() {
        due.is("17 blanks ahead of it", read(blanks(139) + PLAIN), 1);
        due.is("17 blanks behind it", read(PLAIN + blanks(139)), 1);
        due.is("17 a last byte too many", read(PLAIN + blanks(138) + ";"), -100 - 159);
        due.is("17 a long sum", read("harm " + "1+".repeat(69) + "1;cost 2;grow 3;"), 1);
        due.is("17 a long row of or", read("harm " + "1 or ".repeat(27) + "1;cost 2;grow 3;"), 1);
        due.is("17 a long row of and", read("harm " + "1 and ".repeat(22) + "1;cost 2;grow 3;"), 1);
        due.is("17 a long row of *", read("harm " + "9*".repeat(69) + "1;cost 2;grow 3;"), 1);
        due.is("17 a long row of ( )", read("harm " + "(((((1)))))*".repeat(11) + "1;cost 2;grow 3;"), 1);
    }

    /** The text's size, if it ends too early. */
    private static void p17endsTooEarly() {
        for (int n = 0; n < PLAIN.length(); n++) {
            String signs = PLAIN.substring(0, n);
            boolean cut = n > 0 && Character.isLetter(PLAIN.charAt(n - 1)) && Character.isLetter(PLAIN.charAt(n));
            due.is("17 <" + signs + ">", read(signs), cut ? -100 - n / 7 * 7 : -100 - n);
        }
        due.is("17 blanks are of it", read("harm 1 " + blanks(9)), -116);
        due.is("17 blanks alone", read("\n\n "), -103);
        due.is("17 160 blanks", read(blanks(160)), -260);
        due.is("17 160 bytes", read("harm" + blanks(156)), -260);
        due.is("17 an open one", read("harm ((((("), -110);
        due.is("17 a sign", read("harm 1 <"), -108);
        due.is("17 a sign", read("harm 1 -"), -108);
        due.is("17 a not", read("harm not"), -108);
    }

    /** THE TAPE, which is empty then (by a FAULT, too). */
    private static void p17tapeIsEmpty() {
        HowHigh x = new HowHigh();
        due.is("17 a text", LawTest.read(x, PLAIN), 1);
        due.is("17 empty", x.count(11), 0);
        due.is("17 an empty text", x.text(), -100);
        due.is("17 a fault", LawTest.read(x, PLAIN + "?"), -121);
        due.is("17 empty", x.count(11), 0);
        due.is("17 nothing stayed", LawTest.read(x, PLAIN), 2);
        due.is("17 three texts", x.count(9), 3);
        due.is("17 THE LAW is as it was", x.count(10), 0);
        due.is("17 THE LAW is as it was", x.cost(1, 0, 0, 0), 20);
    }

    /** 6 at most; FULL (ahead of the FAULT; then THE TAPE stays). */
    private static void p17full() {
        HowHigh x = new HowHigh();
        for (int t = 1; t < 6; t++) {
            due.is("17 a fault takes no number", LawTest.read(x, "harm"), -104);
            due.is("17 its number", LawTest.read(x, "harm 0;cost " + t + ";grow 0;"), t);
        }
        due.is("17 no text", x.text(), FULL);
        due.is("17 no byte", x.count(11), 0);
        due.is("17 one more", LawTest.read(x, PLAIN), FULL);
        due.is("17 it stays", x.count(11), 21);
        due.is("17 a fault", LawTest.read(x, "??"), FULL);
        due.is("17 it stays", x.count(11), 23);
        due.is("17 six", x.count(9), 6);
        for (int t = 1; t < 6; t++) {
            due.is("17 which was", x.force(t), t - 1);
            due.is("17 each its own", x.cost(1, 0, 0, 0), t);
        }
        due.is("17 no seventh", x.force(6), BAD);
    }

    /** Blanks (32, 10) may stand between. */
    private static void p17blanks() {
        due.is("17 no blanks", read("harm(1);cost-2;grow 3*over;"), 1);
        due.is("17 blanks anywhere", read("\n harm\n1 \n;\n\ncost 2 ;grow\n 3\n; \n"), 1);
        due.is("17 a blank in a word", read("ha rm 1;"), -100);
        due.is("17 a blank in a number", read("harm 1 2;"), -107);
        due.is("17 no blank between words", read("harmover;"), -100);
        due.is("17 no blank between words", read("harm 1 ornot 1;"), -107);
        due.is("17 no blank behind a number", read("harm 1or 2and 3;cost 2;grow 3;"), 1);
        due.is("17 no blank behind a sign", read("harm not(1)or-1;cost 2;grow 3;"), 1);
    }

    /** A byte that begins no TOKEN is a FAULT there, and so is a TOKEN that can't stand there. */
    private static void p17everyByte() {
        for (int b = 0; b < 256; b++) {
            boolean blank = b == 32 || b == 10;
            boolean letter = b >= 'a' && b <= 'z';
            boolean digit = b >= '0' && b <= '9';
            char c = (char) b;
            due.is("17 byte " + b + " ahead of all", read(c + PLAIN), blank ? 1 : -100);
            due.is("17 byte " + b + " behind all", read(PLAIN + c), blank ? 1 : -121);
            boolean between = "+-*<=".indexOf(c) >= 0;
            int one = blank || digit || b == '-' ? 1 : b == '(' ? -107 : -105;
            due.is("17 byte " + b + " ahead of a ONE", read("harm " + c + "1;cost 2;grow 3;"), one);
            int behind = blank || digit ? 1 : between || b == ';' ? -107 : -106;
            due.is("17 byte " + b + " behind a ONE", read("harm 1" + c + ";cost 2;grow 3;"), behind);
            due.is("17 byte " + b + " within a KEY", read("ha" + c + "rm 1;cost 2;grow 3;"), -100);
            int within = blank || b == ';' ? -108 : letter ? -105 : between ? -111 : -107;
            due.is("17 byte " + b + " within a name", read("harm up" + c + "up;"), within);
        }
    }

    /** TOKENS, each as long as can be. */
    private static void p17longTokens() {
        for (String word : new String[] {"overover", "behinds", "wal", "levely", "yea", "upp", "u", "ov", "z", "ore"}) {
            due.is("17 " + word, read("harm " + word + ";"), -105);
        }
        due.is("17 harms", read("harms 1;"), -100);
        due.is("17 har", read("har m 1;"), -100);
        due.is("17 costs", read("harm 1;costs 2;"), -107);
        due.is("17 grows", read("harm 1;cost 2;grows 3;"), -114);
        due.is("17 nota", read("harm nota 1;"), -105);
        due.is("17 andor", read("harm 1 andor 1;"), -107);
        due.is("17 a name of a letter too much is a FAULT where it begins", read("harm 1 * yearo;"), -109);
        due.is("17 a word of 155 letters", read("harm " + "o".repeat(155)), -105);
    }

    /** A WORD that is neither KEY nor NAME: each one with a letter less, more or another one. */
    private static void p17letters() {
        String[][] words = {
            {"harm", "", " 1;cost 2;grow 3;"}, {"cost", "harm 1;", " 2;grow 3;"}, {"grow", "harm 1;cost 2;", " 3;"},
            {"or", "harm 1 ", " 1;cost 2;grow 3;"}, {"and", "harm 1 ", " 1;cost 2;grow 3;"},
            {"not", "harm ", " 1;cost 2;grow 3;"}, {"over", "harm ", ";cost 2;grow 3;"},
            {"behind", "harm ", ";cost 2;grow 3;"}, {"wall", "harm ", ";cost 2;grow 3;"},
            {"level", "harm ", ";cost 2;grow 3;"}, {"year", "harm ", ";cost 2;grow 3;"}, {"up", "harm ", ";cost 2;grow 3;"},
        };
        for (String[] word : words) {
            due.is("17 " + word[0], read(word[1] + word[0] + word[2]), 1);
            int fault = -100 - word[1].length();
            for (int i = 0; i < word[0].length(); i++) {
                String ahead = word[1] + word[0].substring(0, i);
                String behind = word[0].substring(i + 1) + word[2];
                char letter = word[0].charAt(i);
                due.is("17 " + word[0] + " with another letter at " + i, read(ahead + "q" + behind), fault);
                due.is("17 " + word[0] + " with the next letter at " + i, read(ahead + (char) (letter + 1) + behind), fault);
                due.is("17 " + word[0] + " with a letter more at " + i, read(ahead + letter + letter + behind), fault);
                due.is("17 " + word[0] + " with a letter less at " + i, read(ahead + behind), fault);
                due.is("17 " + word[0] + " with a great letter at " + i, read(ahead + (char) (letter - 32) + behind), fault);
            }
        }
    }

    /** NUMBERS (as many digits as stand there; more than 4 are too long). */
    private static void p17digits() {
        due.is("17 four", read("harm 9999;cost 0000;grow 0001;"), 1);
        due.is("17 five", read("harm 10000;"), -105);
        due.is("17 five of 0", read("harm 00000;"), -105);
        due.is("17 five, later", read("harm 1 + 12345;"), -109);
        due.is("17 as many as can be", read("harm " + "1".repeat(155)), -105);
        due.is("17 too long, where no number can stand", read("harm 1 12345;"), -107);
        value("17 9999", "9999", 9999);
        value("17 0009", "0009", 9);
        value("17 0000", "0000", 0);
    }

    /** Harm E ; cost E ; grow E ; (each part with its ;). */
    private static void p17parts() {
        due.is("17 no last ;", read("harm 1;cost 2;grow 3"), -120);
        due.is("17 no ; between", read("harm 1 cost 2;grow 3;"), -107);
        due.is("17 no ; between", read("harm 1;cost 2 grow 3;"), -114);
        due.is("17 an empty part", read("harm;"), -104);
        due.is("17 an empty part", read("harm 1;cost;"), -111);
        due.is("17 an empty part", read("harm 1;cost 2;grow;"), -118);
        due.is("17 another order", read("cost 2;harm 1;grow 3;"), -100);
        due.is("17 another order", read("harm 1;grow 3;cost 2;"), -107);
        due.is("17 a part twice", read("harm 1;harm 1;"), -107);
        due.is("17 a part too many", read(PLAIN + "grow 3;"), -121);
        due.is("17 a ; too many", read("harm 1;;cost 2;"), -107);
        due.is("17 a ; too many", read(PLAIN + ";"), -121);
        due.is("17 a KEY is no name", read("harm harm;"), -105);
        due.is("17 a name is no KEY", read("over 1;"), -100);
    }

    /** NOT: not NOT, or SUM, perhaps < or = and a SUM. */
    private static void p17notBelow() {
        due.is("17 < once", read("harm 1<2 or 3=4 and 5;cost 2;grow 3;"), 1);
        due.is("17 < twice", read("harm 1<2<3;"), -108);
        due.is("17 < and =", read("harm 1<2=3;"), -108);
        due.is("17 = and <", read("harm 1=2<3;"), -108);
        due.is("17 = twice", read("harm 1=2=3;"), -108);
        due.is("17 = =", read("harm 1==2;"), -107);
        due.is("17 < =", read("harm 1<=2;"), -107);
        due.is("17 a not behind <", read("harm 1<not 2;"), -107);
        due.is("17 a not behind =", read("harm 1=not 2;"), -107);
        due.is("17 a not behind +", read("harm 1+not 2;"), -107);
        due.is("17 a not behind *", read("harm 1*not 2;"), -107);
        due.is("17 a not behind -", read("harm -not 2;"), -106);
        due.is("17 a not in ( )", read("harm -(not 2)*(not 1<2);cost 2;grow 3;"), 1);
        due.is("17 a + ahead", read("harm +1;"), -105);
        due.is("17 - behind +", read("harm 1+-1;cost 1--1;grow 1*-1;"), 1);
        due.is("17 - and no ONE", read("harm 1-;"), -107);
        due.is("17 or ahead", read("harm or 1;"), -105);
        due.is("17 and and", read("harm 1 and and 1;"), -111);
        due.is("17 an empty ( )", read("harm ();"), -106);
        due.is("17 a ) too many", read("harm (1));"), -108);
        due.is("17 a ; in ( )", read("harm (1;"), -107);
    }

    /** A ( , a not, a - ahead of a ONE while 5 of these are open. */
    private static void p17open() {
        String rest = ";cost 2;grow 3;";
        String[] opens = {"(", "not ", "-"};
        String[] closes = {")", "", ""};
        // The last of the six may be of another kind than those around it; behind a - no not can stand.
        for (int i = 0; i < 3; i++) {
            due.is("17 five of " + opens[i], read("harm " + opens[i].repeat(5) + "1" + closes[i].repeat(5) + rest), 1);
            for (int j = 0; j < 3; j++) {
                String ahead = "harm " + opens[i].repeat(5);
                due.is("17 a sixth " + opens[j] + " in " + opens[i], read(ahead + opens[j] + "1"), -100 - ahead.length());
                String four = "harm " + opens[i].repeat(4) + opens[j] + "1" + closes[j] + closes[i].repeat(4) + rest;
                boolean stands = !(opens[i].equals("-") && opens[j].equals("not "));
                due.is("17 a fifth: " + four, read(four), stands ? 1 : -109);
            }
        }
        due.is("17 a mixed sixth", read("harm not(-(not(1"), -114);
        due.is("17 a mixed fifth", read("harm not(-(not 1))" + rest), 1);
        due.is("17 far more than six", read("harm " + "(".repeat(150)), -110);
        due.is("17 far more than six", read("harm " + "-".repeat(150)), -110);
        due.is("17 far more than six", read("harm " + "not ".repeat(35)), -125);
        due.is("17 a - between does not count", read("harm (((((1-2)))))" + rest), 1);
        due.is("17 a - ahead does", read("harm (((((-2)))))" + rest), -110);
        due.is("17 a - behind a - does", read("harm (((((1--2)))))" + rest), -112);
    }

    /** A ( till its ) , not and - till what they belong to ends. */
    private static void p17openEnds() {
        String five = "(((((1)))))";
        String rest = ";cost 2;grow 3;";
        due.is("17 a ) ends its (", read("harm (1)+" + five + rest), 1);
        due.is("17 a ) ends its ( alone", read("harm ((1)+" + five + ")" + rest), -100 - 14);
        due.is("17 a - ends by *", read("harm -1*" + five + rest), 1);
        due.is("17 a - ends by +", read("harm -1+" + five + rest), 1);
        due.is("17 a - ends by <", read("harm -1<" + five + rest), 1);
        due.is("17 a - of a ( ends by its )", read("harm -(1)*" + five + rest), 1);
        due.is("17 a - is open within its (", read("harm -" + five + rest), -110);
        due.is("17 a not is open behind *", read("harm not 1*" + five + rest), -100 - 15);
        due.is("17 a not is open behind +", read("harm not 1+" + five + rest), -100 - 15);
        due.is("17 a not is open behind <", read("harm not 1<" + five + rest), -100 - 15);
        due.is("17 a not is open behind =", read("harm not 1=" + five + rest), -100 - 15);
        due.is("17 a not ends by and", read("harm not 1 and " + five + rest), 1);
        due.is("17 a not ends by or", read("harm not 1 or " + five + rest), 1);
        due.is("17 a not ends by )", read("harm (not 1)+" + five + rest), 1);
        due.is("17 two of not end by and", read("harm not not 1 and not not(((1)))" + rest), 1);
        due.is("17 none is open in the next part", read("harm " + five + ";cost " + five + ";grow " + five + ";"), 1);
    }

    /** What is open is open for each side of each sign, however often the sign stands. */
    private static void p17openBesideSigns() {
        String rest = ";cost 2;grow 3;";
        for (String sign : new String[] {" or ", " and ", "<", "=", "+", "-", "*"}) {
            for (int around = 0; around <= 5; around++) {
                String ahead = "harm " + "(".repeat(around);
                String behind = ")".repeat(around) + rest;
                String in = "(".repeat(5 - around);
                String one = in + "1" + ")".repeat(5 - around);
                due.is("17 behind" + sign + around, read(ahead + "1" + sign + one + behind), 1);
                due.is("17 ahead of" + sign + around, read(ahead + one + sign + "1" + behind), 1);
                String right = ahead + "1" + sign + in;
                due.is("17 a sixth behind" + sign + around, read(right + "(1"), -100 - right.length());
                due.is("17 a sixth - behind" + sign + around, read(right + "-1"), -100 - right.length());
                due.is("17 a sixth ahead of" + sign + around, read(ahead + in + "(1"), -100 - 10);
                if (!sign.equals("<") && !sign.equals("=")) {
                    String third = ahead + "1" + sign + "1" + sign + "1" + sign + in;
                    due.is("17 behind more" + sign + around, read(third + "1" + ")".repeat(5 - around) + behind), 1);
                    due.is("17 a sixth behind more" + sign + around, read(third + "(1"), -100 - third.length());
                }
            }
        }
    }

    /** An E by what a wall costs: year 4, wall 7, behind 30, raised by 3, broad. */
    private static void value(String call, String e, int want) {
        HowHigh x = new HowHigh();
        x.set(3, 1);
        x.force(LawTest.read(x, "harm 0;cost " + e + ";grow 0;"));
        due.is(call + ": " + e, x.cost(3, 7, 4, 30), want);
    }

    /** As much as can be is still to be worked off, while what stands innermost is. */
    private static void p17deep() {
        value("17 in five (", "1+2*(1+2*(1+2*(1+2*(1+2*(1+2*3)))))", 255);
        String ahead = "0 or 1 and 0<0+1*(".repeat(5);
        value("17 all signs in five (", ahead + "up)))))", 1);
        value("17 all signs in five (", ahead + "0)))))", 0);
        value("17 all signs in five (", ahead + "1 or 1 and 1<1+1*up)))))", 1);
        value("17 all signs in five (", ahead + "0 or 1 and 9<3+2*up)))))", 0);
        value("17 three - of a (", "100-2*---(up+2*3)", 118);
        value("17 four - of a (", "100-2*----(up+2*3)", 82);
        value("17 not in five not", "5+2*(not not not not 7)", 7);
    }

    /** What binds closer, and from where on. */
    private static void p17ways() {
        value("17 * ahead of +", "2+3*4+5", 19);
        value("17 * ahead of -", "90-3*4-5", 73);
        value("17 - from the first on", "100-10-1", 89);
        value("17 - and + from the first on", "100-10+1", 91);
        value("17 - ahead of *", "100+-2*3", 94);
        value("17 + ahead of <", "1+2<4", 1);
        value("17 + ahead of =", "2*2=1+3", 1);
        value("17 < ahead of not", "not 2<1", 1);
        value("17 = ahead of not", "not 0=1", 1);
        value("17 + ahead of not", "not 1+1", 0);
        value("17 not ahead of and", "not 0 and 0", 0);
        value("17 not ahead of or", "not 1 or 1", 1);
        value("17 and ahead of or", "1 or 1 and 0", 1);
        value("17 and ahead of or", "0 and 1 or 1", 1);
        value("17 ( ) ahead of all", "(1 or 1) and 0", 0);
        value("17 names", "over+behind*up-wall*level-year", 1 + 90 - 4);
    }

    /** An E is an int (32 bits, wrapping). */
    private static void p17wraps() {
        // 46340 squared is 2147395600, 46341 squared wraps to -2147479015.
        value("17 just below 2 to the 31st", "(4634*10)*(4634*10)<0", 0);
        value("17 just above it", "(4634*10+1)*(4634*10+1)<0", 1);
        String highest = "(8192*8192*32-1+8192*8192*32-8192*8192*32+8192*8192*31+8192*8192)";
        value("17 8192*8192*32 is -2147483648", "8192*8192*32<-2147*1000*1000", 1);
        value("17 the lowest less 1 wraps", "0<8192*8192*32-1", 1);
        value("17 the highest and 1 wrap", "8192*8192*32-1+1<0", 1);
        value("17 - of the lowest is the lowest", "-(8192*8192*32)=8192*8192*32", 1);
        value("17 - of the lowest is below 0", "-(8192*8192*32)<0", 1);
        value("17 8192*8192*64 is 0", "8192*8192*64=0", 1);
        value("17 twice the lowest is 0", "8192*8192*32+8192*8192*32", 0);
        value("17 the highest is no less than itself", highest + "<" + highest, 0);
        value("17 < does not wrap", "8192*8192*32<1", 1);
        value("17 < does not wrap", "1<8192*8192*32", 0);
    }

    /** Of or, and, not, <, = 1 or 0 (what is not 0 is true). */
    private static void p17truth() {
        int[] is = {0, 1, 2, -1};
        for (int a : is) {
            for (int b : is) {
                String l = "(" + a + ")";
                String r = "(" + b + ")";
                value("17 or", "5*(" + l + " or " + r + ")", a != 0 || b != 0 ? 5 : 0);
                value("17 and", "5*(" + l + " and " + r + ")", a != 0 && b != 0 ? 5 : 0);
                value("17 <", "5*(" + l + "<" + r + ")", a < b ? 5 : 0);
                value("17 =", "5*(" + l + "=" + r + ")", a == b ? 5 : 0);
            }
            value("17 not", "5*(not(" + a + "))", a == 0 ? 5 : 0);
        }
        value("17 what wraps to 0 is not true", "not(8192*8192*64)", 1);
        value("17 the lowest is true", "8192*8192*32 and 1", 1);
    }

    private static void p18force() {
        HowHigh x = new HowHigh();
        LawTest.read(x, "harm 1;cost 2;grow 3;");
        due.is("18 no such", x.force(2), BAD);
        due.is("18 no such", x.force(-1), BAD);
        due.is("18 it stays", x.count(10), 0);
        due.is("18 it stays", x.cost(1, 0, 0, 0), 20);
        due.is("18 which was", x.force(1), 0);
        due.is("18 it is", x.count(10), 1);
        due.is("18 no such", x.force(2), BAD);
        due.is("18 it stays", x.cost(1, 0, 0, 0), 2);
        due.is("18 itself", x.force(1), 1);
        due.is("18 the first again", x.force(0), 1);
        due.is("18 the first again", x.behindThen(16), 109);
    }
}
