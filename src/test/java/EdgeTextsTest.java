import java.io.IOException;

/** Each edge that section 1 of the Terms names of texts, and each of promises 6 to 8. */
public final class EdgeTextsTest {
    private static final int CITIZEN = Given.CITIZEN, LEAST = Given.LEAST, MOST = Given.MOST;

    public static void main(String[] args) throws IOException {
        Edges.run(EdgeTextsTest.class);
    }

    private static String blanks(int n) {
        return " ".repeat(n);
    }

    /** A text whose harms is such. */
    private static String harms(String e) {
        return "dares 1;harms " + e + ";sits 1;";
    }

    /** A text whose first FAULT, if it has one, is in its dares, which begins at place 6. */
    private static void isText(String e) {
        Due.is(1, Due.text(new LawsLapse(), "dares " + e + ";harms 1;sits 1;"), "text() where dares tells " + e);
    }

    private static void isFault(int place, String text) {
        LawsLapse x = new LawsLapse();
        Due.is(-100 - place, Due.text(x, text), "text() of " + text);
        Due.is(1, x.count(3), "TEXTS behind " + text);
        Due.is(0, x.count(4), "bytes of THE TAPE behind " + text);
    }

    /** What harms tells of a DEED of HARM 12 that breaks 3 LAWS, by one of NUMBER 4 who SERVED 5, in YEAR 7, where 6 are ALIVE. */
    private static void tells(int due, String e) {
        LawsLapse x = Given.ruled(harms(e), CITIZEN, 4);
        x.set(4, 2, 12);
        x.set(3, 2, 7);
        x.set(7, 0, 5);
        x.set(2, 0, 7);
        x.set(0, 0, 0);
        x.set(0, 6, 0);
        Due.is(due, x.asks(0, 2, 1), "asks(0, 2, 1) where harms tells " + e);
    }

    // ---- the Terms: tokens

    @Says(of = "Terms 1", text = "A TEXT is read from THE TAPE (160 bytes at most).")
    static void tapeOf160() {
        String text = harms("harm+5");
        LawsLapse x = Given.people(CITIZEN, 0);
        for (int i = 0; i < text.length(); i++) x.feed(text.charAt(i));
        for (int i = text.length(); i < 160; i++) Due.is(i + 1, x.feed(' '), "feed(32), byte " + i);
        Due.is(-4, x.feed(' '), "feed(32), byte 160");
        Due.is(1, x.text(), "text() of 160 bytes");
        x.force(1);
        Due.is(15, x.asks(0, 0, 1), "asks(0, 0, 1) by it");
        String longest = "dares 1;harms " + "1+".repeat(68) + "13;sits 1;";
        LawsLapse y = Given.ruled(longest, CITIZEN, 0);
        Due.is(160, longest.length(), "bytes of a text without a blank that needn't be there");
        Due.is(81, y.asks(0, 0, 1), "asks(0, 0, 1) by a text of 160 bytes");
        String last = blanks(160 - text.length()) + text;
        Due.is(2, Due.text(x, last), "text() whose last byte is byte 159");
    }

    @Says(of = "Terms 1", text = "TOKENS, each as long as can be: WORDS (a .. z)")
    static void wordsAreLong() {
        isFault(6, "dares harmlaws;harms 1;sits 1;");
        isFault(6, "dares harmor 1;harms 1;sits 1;");
        isFault(8, "dares 1 orharm;harms 1;sits 1;");
        isFault(6, "dares notharm;harms 1;sits 1;");
        isFault(0, "daresharm;harms 1;sits 1;");
        isFault(6, "dares har;harms 1;sits 1;");
        isFault(6, "dares harmz;harms 1;sits 1;");
        isFault(7, "dares 1harm;harms 1;sits 1;");
        isFault(10, "dares harm1;harms 1;sits 1;");
        Due.is(1, Due.text(new LawsLapse(), "dares1;harms1;sits1;"), "text() where NUMBERS follow WORDS at once");
        Due.is(1, Due.text(new LawsLapse(), "dares not(harm)or(laws);harms-1and-1;sits 0or 1;"), "text() with SIGNS about WORDS");
        for (int beside : new int[] {'a' - 1, 'z' + 1, 'A', 'Z', 'h' - 32}) {
            isFault(6, "dares " + (char) beside + ";harms 1;sits 1;");
            isFault(10, "dares harm" + (char) beside + ";harms 1;sits 1;");
        }
    }

    @Says(of = "Terms 1", text = "NUMBERS (as many digits as stand there, 4 at most)")
    static void numbersAreOfFourDigits() {
        tells(0, "0");
        tells(7, "7");
        tells(7, "0007");
        tells(0, "0000");
        tells(998, "998");
        tells(9, "9999-9990");
        isFault(14, harms("10000"));
        isFault(14, harms("00007"));
        isFault(14, harms("99999"));
        isFault(14, harms("00000"));
        isFault(16, harms("1+123456"));
        isFault(16, harms("1 12345"));
        isFault(16, harms("1 2"));
        for (int beside : new int[] {'0' - 1, '9' + 1}) isFault(7, "dares 1" + (char) beside + ";harms 1;sits 1;");
        tells(9, "1+8");
        isFault(14, "dares 1;harms " + "1".repeat(146));
    }

    @Says(of = "Terms 1", text = "SIGNS ( ) ; + - * < = ; blanks (32, 10) may stand between.")
    static void signsAndBlanks() {
        String signs = "();+-*<=";
        for (int b = 0; b < 256; b++) {
            boolean isBlank = b == 32 || b == 10;
            boolean isToken = b >= 'a' && b <= 'z' || b >= '0' && b <= '9' || signs.indexOf(b) >= 0;
            if (isToken) continue;
            String text = "dares 1" + (char) b + ";harms 1;sits 1;";
            if (isBlank) Due.is(1, Due.text(new LawsLapse(), text), "text() with byte " + b + " between");
            else isFault(7, text);
        }
        Due.is(1, Due.text(new LawsLapse(), "\n \ndares\n\n1 ;\nharms ( 1 + 2 ) ; sits\n1\n;  \n"), "text() with blanks between all");
        Due.is(1, Due.text(new LawsLapse(), "dares(1);harms(1)<(2);sits(1);"), "text() with no blank");
        isFault(8, "dares 1 2;harms 1;sits 1;");
        isFault(6, "dares ha rm;harms 1;sits 1;");
        isFault(0, "da res 1;harms 1;sits 1;");
        tells(3, " ( 1 + 2 ) ");
    }

    // ---- the Terms: grammar and values

    @Says(of = "Terms 1", text = "TEXT: dares E ; harms E ; sits E ;")
    static void threeParts() {
        isFault(0, "harms 1;dares 1;sits 1;");
        isFault(8, "dares 1;sits 1;harms 1;");
        isFault(16, "dares 1;harms 1;dares 1;");
        isFault(23, "dares 1;harms 1;sits 1;dares 1;");
        isFault(23, "dares 1;harms 1;sits 1;;");
        isFault(22, "dares 1;harms 1;sits 1");
        isFault(16, "dares 1;harms 1;");
        isFault(6, "dares ;harms 1;sits 1;");
        isFault(8, "dares 1 harms 1;sits 1;");
    }

    @Says(of = "Terms 1", text = "E: AND { or AND }. AND: NOT { and NOT }.")
    static void chainsAreLong() {
        tells(1, "0or".repeat(45) + "5");
        tells(0, "0or".repeat(45) + "0");
        tells(1, "1and".repeat(34) + "5");
        tells(0, "1and".repeat(34) + "0");
        tells(1, "0 or 1 and 1");
        tells(1, "1 or 0 and 0");
        tells(0, "(1 or 0) and 0");
    }

    @Says(of = "Terms 1", text = "SUM: TERM { + or - TERM }. TERM: ONE { * ONE }. ONE: a NUMBER, a NAME, - ONE, ( E ).")
    static void sumsAreLong() {
        tells(5, "1-1+".repeat(27) + "5");
        tells(7, "1*".repeat(60) + "7");
        tells(2, "9-3-4");
        tells(10, "9-(3-4)");
        tells(14, "2+3*4");
        tells(20, "(2+3)*4");
        tells(6, "-2*-3");
        String within = "0or 1and 1<1+1*(";
        tells(1, within.repeat(5) + "harm" + ")".repeat(5));
        tells(0, within.repeat(5) + "harm-12" + ")".repeat(5));
    }

    @Says(of = "Terms 1", text = "NOT: not NOT, or SUM, perhaps < or = and a SUM.")
    static void oneComparison() {
        tells(1, "1<2");
        tells(0, "2<2");
        tells(0, "3<2");
        tells(1, "2=2");
        tells(0, "2=3");
        isFault(9, "dares 1<2<3;harms 1;sits 1;");
        isFault(9, "dares 1=2=3;harms 1;sits 1;");
        isFault(9, "dares 1<2=3;harms 1;sits 1;");
        isFault(8, "dares 1<not 2;harms 1;sits 1;");
        isFault(8, "dares 1+not 2;harms 1;sits 1;");
        isFault(7, "dares -not 1;harms 1;sits 1;");
        isText("not not 1<2");
        isText("(1<2)<3");
        tells(0, "not 2<3");
        tells(1, "not 3<3 and not 0");
    }

    @Says(of = "Terms 1", text = "An E is an int (32 bits, wrapping)")
    static void intsWrap() {
        tells(0, "8192*8192*64");
        tells(7, "8192*8192*64+7");
        tells(999, "8192*8192*16");
        tells(1, "8192*8192*32<0");
        tells(999, "8192*8192*32-1");
        tells(1, "0<8192*8192*32-1");
        tells(1, "8192*8192*32=-(8192*8192*32)");
        tells(0, "-(8192*8192*32)");
        tells(1, "8192*8192*32-1+1<0");
        tells(0, "9999*9999*22");
        tells(1, "9999*9999*22+9999*9999*22=9999*9999*44");
        tells(5, "8192*8192*32+8192*8192*32+5");
    }

    @Says(of = "Terms 1", text = "of or, and, not, <, = 1 or 0 (what is not 0 is true).")
    static void truthIs1Or0() {
        tells(1, "5 or 0");
        tells(1, "0 or 5");
        tells(1, "5 or 7");
        tells(0, "0 or 0");
        tells(1, "5 and 7");
        tells(1, "2 and 4");
        tells(0, "5 and 0");
        tells(0, "0 and 5");
        tells(0, "not 5");
        tells(1, "not 0");
        tells(0, "not -1");
        tells(1, "not not 5");
        tells(1, "-1 or 0");
        tells(1, "-1 and -2");
        tells(3, "(3<4)+(4=4)+(not 0)");
        for (String untrue : new String[] {"0 or 0", "5 and 0", "0 and 0", "not 7", "4<4", "4=5", "not -1"}) tells(5, "5+(" + untrue + ")");
        for (String yes : new String[] {"0 or 9", "5 and -5", "not 0", "3<4", "-4<-3", "4=4", "--4=4"}) tells(6, "5+(" + yes + ")");
    }

    @Says(of = "Terms 1", text = "NAMES are harm laws number year served alive; dares, harms, sits, or, and, not are KEYS.")
    static void namesAndKeys() {
        tells(12, "harm");
        tells(3, "laws");
        tells(4, "number");
        tells(7, "year");
        tells(5, "served");
        tells(6, "alive");
        for (String key : new String[] {"dares", "harms", "sits", "or", "and"}) isFault(6, "dares " + key + ";harms 1;sits 1;");
        isFault(9, "dares not;harms 1;sits 1;");
    }

    // ---- the Terms: faults

    @Says(of = "Terms 1", text = "FAULT: the place of the first byte of the first TOKEN that can't stand there")
    static void faultIsTheFirstToken() {
        isFault(0, ";");
        isFault(3, "   ;");
        isFault(0, "1");
        isFault(8, "dares 1 )");
        isFault(9, "dares (1 laws) foo 12345;");
        isFault(6, "dares );harms ?");
        isFault(6, "dares *1;");
        isFault(6, "dares <1;");
        isFault(6, "dares +1;");
        isFault(8, "dares 1++1;");
        isFault(8, "dares 1**1;");
        isFault(8, "dares 1*+1;");
        isFault(7, "dares ();");
        isFault(8, "dares (1;");
        isFault(12, "dares 1 or  or 1;");
    }

    @Says(of = "Terms 1", text = "(the text's size, if it ends too early)")
    static void faultIsTheSize() {
        String whole = "dares not(harm+1)or 2;harms -3*laws;sits 1<2;";
        for (int size = 0; size < whole.length(); size++) {
            String cut = whole.substring(0, size);
            boolean isCutWord = size > 0 && Character.isLetter(cut.charAt(size - 1)) && Character.isLetter(whole.charAt(size));
            if (!isCutWord) isFault(size, cut);
        }
        isFault(0, "");
        isFault(1, " ");
        isFault(1, "\n");
        isFault(160, blanks(160));
        isFault(10, "dares 1   ");
        isFault(160, "dares 1" + blanks(153));
        Due.is(1, Due.text(new LawsLapse(), whole), "text() of the whole of it");
    }

    @Says(of = "Terms 1", text = "also of a byte that begins none")
    static void faultOfAByte() {
        for (int b : new int[] {0, 9, 13, 31, 33, '"', ',', '.', '/', ':', '>', '?', '@', 'A', 'Z', '[', '_', '`', '{', '|', '~', 127, 128, 160, 255}) {
            isFault(0, (char) b + "dares 1;harms 1;sits 1;");
            isFault(5, "dares" + (char) b + "1;harms 1;sits 1;");
            isFault(23, "dares 1;harms 1;sits 1;" + (char) b);
            isFault(24, "dares 1;harms 1;sits 1; " + (char) b);
        }
    }

    @Says(of = "Terms 1", text = "a WORD that is neither KEY nor NAME")
    static void faultOfAWord() {
        for (String word : new String[] {"x", "foo", "harmss", "law", "lawss", "numbers", "years", "serve", "aliv", "dare", "sit", "o", "orr", "an", "nott",
            "xarm", "xaws", "xumber", "xear", "xerved", "xlive", "xares", "xarms", "xits", "xr", "xnd", "xot", "hxrm", "haxm", "harx"}) {
            isFault(0, word + " 1;harms 1;sits 1;");
            isFault(6, "dares " + word + ";harms 1;sits 1;");
            isFault(8, "dares 1 " + word + " 1;harms 1;sits 1;");
            isFault(24, "dares 1;harms 1;sits 1; " + word);
        }
    }

    @Says(of = "Terms 1", text = "a NUMBER that is too long")
    static void faultOfANumber() {
        isFault(6, "dares 12345;harms 1;sits 1;");
        isFault(8, "dares 1+00001;harms 1;sits 1;");
        isFault(14, "dares 1;harms 123456789;sits 1;");
        isFault(5, "dares12345;harms 1;sits 1;");
        isFault(23, "dares 1;harms 1;sits 1;12345");
        isText("1234");
    }

    @Says(of = "Terms 1", text = "a ( , a not, a - ahead of a ONE while 5 of these are open")
    static void fiveAreOpen() {
        isText("(((((1)))))");
        isFault(11, "dares ((((((1))))));harms 1;sits 1;");
        isText("not not not not not 1");
        isFault(26, "dares not not not not not not 1;harms 1;sits 1;");
        isText("-----1");
        isFault(11, "dares ------1;harms 1;sits 1;");
        isText("not (-(-1))");
        isText("not (not (-1))");
        isFault(17, "dares not (not (--1));harms 1;sits 1;");
        isFault(17, "dares not (not (-(1)));harms 1;sits 1;");
        isFault(11, "dares (((((not 1)))));harms 1;sits 1;");
        isFault(11, "dares (((((-1)))));harms 1;sits 1;");
        isFault(11, "dares (((((-harm)))));harms 1;sits 1;");
        isText("(((((1-1)))))");
        isText("-----1-1");
        isText("((((-1))))");
        isText("((((not 1))))");
        isFault(11, "dares -----(1);harms 1;sits 1;");
        isFault(26, "dares not not not not not (1);harms 1;sits 1;");
        isFault(26, "dares not not not not not -1;harms 1;sits 1;");
        isFault(11, "dares ((((((");
        isFault(11, "dares (((((");
        isFault(19, "dares 1;harms ((((((1))))));sits 1;");
        isFault(26, "dares 1;harms 1;sits (((((-1)))));");
    }

    @Says(of = "Terms 1", text = "(a ( till its ) , not and - till what they belong to ends)")
    static void openEnds() {
        isText("(((((1)))))+(((((1)))))");
        isText("(((((1)))))<(((((1))))) and (((((1)))))");
        isText("-----1+-----1");
        isText("-----1*-----1");
        isText("-----1<-----1");
        isText("-----1 or -----1");
        isText("not not not not not 1 and not not not not not 1");
        isText("not not not not not 1 or not not not not not 1");
        isText("(((((1)))) or -1)");
        isText("((((-1)*-1)-1 or not 1) and -1)");
        isFault(28, "dares not not not not not 1+-1;harms 1;sits 1;");
        isFault(28, "dares not not not not not 1<-1;harms 1;sits 1;");
        isFault(28, "dares not not not not not 1*(1);harms 1;sits 1;");
        isText("not not not not not 1-1");
        isText("not not not not not 1 or -1");
        isText("(((((1)))+(((1)))))");
        isFault(19, "dares (((((1)))+((((1))))));harms 1;sits 1;");
        isText("(((((1)))+((1))))");
        isFault(36, "dares 1;harms (((((1)))));sits ((((((1))))));");
    }

    @Says(of = "Terms 1", text = "There are 6 TEXTS at most, TEXT 0 with them.")
    static void sixTexts() {
        LawsLapse x = new LawsLapse();
        Due.is(1, x.count(3), "TEXTS at first: TEXT 0");
        for (int text = 1; text < 6; text++) {
            Due.is(text, Due.text(x, "dares 1;harms " + text + ";sits 1;"), "text() number " + text);
            Due.is(text + 1, x.count(3), "TEXTS");
        }
        Due.is(-4, x.text(), "a seventh");
        Due.is(6, x.count(3), "TEXTS");
        x.person(CITIZEN, 0);
        for (int text = 0; text < 6; text++) {
            x.force(text);
            Due.is(text == 0 ? 10 : text, x.asks(0, 0, 1), "asks(0, 0, 1) by TEXT " + text);
        }
        Due.is(-2, x.force(6), "force(6)");
    }

    @Says(of = "Terms 1", text = "harm: HARM of it; laws: how many LAWS it breaks; number: NUMBER; year: YEAR; served: SERVED; alive: how many LAWS are.")
    static void namesAtTheirEnds() {
        LawsLapse x = Given.ruled("dares 1;harms harm+laws*100;sits alive;", CITIZEN, 0);
        int[][] due = {{0, 0, 0}, {99, 0, 99}, {0, 255, 800}, {99, 255, 899}};
        for (int[] row : due) {
            x.set(4, 0, row[0]);
            x.set(3, 0, row[1]);
            Due.is(row[2], x.asks(0, 0, 1), "asks(0, 0, 1) of HARM " + row[0] + ", breaks " + row[1]);
        }
        for (int law = 0; law < 8; law++) {
            Due.is(8 - law, x.asks(0, 0, 2), "asks(0, 0, 2), so many ALIVE");
            x.set(0, law, 0);
        }
        Due.is(0, x.asks(0, 0, 2), "asks(0, 0, 2), none ALIVE");
        Due.is(899, x.asks(0, 0, 1), "asks(0, 0, 1): LAPSED LAWS that it breaks count, too");
        LawsLapse y = Given.ruled("dares 1;harms year;sits number+served;", CITIZEN, 0);
        for (int year : new int[] {0, 999}) {
            y.set(2, 0, year);
            Due.is(year, y.asks(0, 0, 1), "asks(0, 0, 1) in YEAR " + year);
        }
        y.set(5, 0, 9);
        y.set(7, 0, 90);
        Due.is(99, y.asks(0, 0, 2), "asks(0, 0, 2): NUMBER 9, SERVED 90");
    }

    @Says(of = "Terms 1", text = "dares, harms (0 .. 999, else the bound), sits (0 .. 99, else the bound).")
    static void partsAreBound() {
        int[] v = {-9999, -1, 0, 1, 99, 100, 999, 1000, 9999};
        int[] harms = {0, 0, 0, 1, 99, 100, 999, 999, 999};
        int[] sits = {0, 0, 0, 1, 99, 99, 99, 99, 99};
        for (int i = 0; i < v.length; i++) {
            LawsLapse x = Given.ruled("dares " + v[i] + ";harms " + v[i] + ";sits " + v[i] + ";", CITIZEN, 0);
            Due.is(v[i] > 0 ? 1 : 0, x.asks(0, 0, 0), "asks(0, 0, 0) where dares tells " + v[i]);
            Due.is(harms[i], x.asks(0, 0, 1), "asks(0, 0, 1) where harms tells " + v[i]);
            Due.is(sits[i], x.asks(0, 0, 2), "asks(0, 0, 2) where sits tells " + v[i]);
        }
        LawsLapse y = Given.ruled("dares -1;harms 1998;sits 1;", Given.POLICEMAN, 9, Given.CLERK, 9, Given.THIEF, 0);
        Due.is(0, y.asks(0, 0, 0), "asks(0, 0, 0): a POLICEMAN, dares below 0");
        Due.is(499, y.asks(0, 0, 1), "asks(0, 0, 1): half of the bound");
        Due.is(990, y.asks(1, 0, 1), "asks(1, 0, 1): 9 less than the bound");
        Due.is(999, y.asks(2, 0, 1), "asks(2, 0, 1): twice the bound, at the bound");
    }

    @Says(of = "Terms 1", text = "TEXT 0, at first THE RULE, is: dares 1 ; harms harm ; sits 1 ;")
    static void textZero() {
        LawsLapse x = Given.people(CITIZEN, 7);
        Due.is(0, x.count(5), "THE RULE at first");
        for (int harm : new int[] {0, 99}) {
            x.set(4, 3, harm);
            Due.is(1, x.asks(0, 3, 0), "asks(0, 3, 0)");
            Due.is(harm, x.asks(0, 3, 1), "asks(0, 3, 1)");
            Due.is(1, x.asks(0, 3, 2), "asks(0, 3, 2)");
        }
        Due.is(0, x.force(0), "force(0)");
    }

    // ---- promises 6 to 8

    @Says(of = "Promise 6", text = "A byte (0 .. 255) comes behind THE TAPE: how many it has. BAD;")
    static void feedRefuses() {
        LawsLapse x = new LawsLapse();
        for (int letter : new int[] {-1, 256, LEAST, MOST, 256 + 'd'}) {
            Due.is(-2, x.feed(letter), "feed(" + letter + ")");
            Due.is(0, x.count(4), "bytes of THE TAPE");
        }
        Due.is(1, x.feed(0), "feed(0)");
        Due.is(2, x.feed(255), "feed(255)");
        Due.is(2, x.count(4), "bytes of THE TAPE");
        Due.is(-100, x.text(), "text() of bytes 0 and 255");
    }

    @Says(of = "Promise 6", text = "FULL.")
    static void feedIsFull() {
        LawsLapse x = new LawsLapse();
        for (int i = 1; i <= 159; i++) x.feed(' ');
        Due.is(160, x.feed(' '), "byte 159, the last");
        Due.is(-4, x.feed('x'), "byte 160");
        Due.is(-4, x.feed('x'), "byte 160, again");
        Due.is(-2, x.feed(-1), "feed(-1): BAD ahead of FULL");
        Due.is(160, x.count(4), "bytes of THE TAPE");
        Due.is(-260, x.text(), "text(): no x has come");
        Due.is(1, x.feed('x'), "byte 0 of an empty one");
    }

    @Says(of = "Promise 7", text = "THE TAPE, which is empty then (by a FAULT, too), is a TEXT: its number;")
    static void tapeIsEmptyThen() {
        LawsLapse x = new LawsLapse();
        Due.is(1, Due.text(x, harms("harm")), "text() of a good one");
        Due.is(0, x.count(4), "bytes of THE TAPE");
        Due.is(-100, x.text(), "text() of an empty one");
        Due.is(-108, Due.text(x, "dares 1 ?"), "text() with a FAULT");
        Due.is(0, x.count(4), "bytes of THE TAPE behind a FAULT");
        Due.is(1, x.feed('d'), "feed() behind a FAULT");
        x.text();
        Due.is(2, Due.text(x, harms("laws")), "text() of a good one behind a FAULT");
        Due.is(0, x.count(5), "THE RULE, unchanged by text()");
        LawsLapse y = Given.people(CITIZEN, 0);
        Due.is(-135, Due.text(y, "dares 1;harms 1;sits not not not 1 x"), "text() with a FAULT at its end");
        Due.is(1, Due.text(y, "dares 1;harms 8;sits 7;"), "text() of a shorter one");
        y.force(1);
        int[] due = {1, 8, 7};
        for (int what = 0; what < 3; what++) Due.is(due[what], y.asks(0, 0, what), "asks(0, 0, " + what + "), of which nothing is of the FAULT");
    }

    @Says(of = "Promise 7", text = "-100 less the place of its FAULT.")
    static void faultsAreTold() {
        isFault(0, "");
        isFault(0, "x");
        isFault(1, " x");
        isFault(159, blanks(159) + "x");
        isFault(160, blanks(160));
    }

    @Says(of = "Promise 7", text = "FULL (ahead of all): no TEXT more has room (THE TAPE stays).")
    static void textIsFull() {
        LawsLapse x = new LawsLapse();
        for (int text = 1; text < 6; text++) Due.is(text, Due.text(x, harms("1")), "text() number " + text);
        Due.is(-4, x.text(), "text() of nothing: FULL ahead of its FAULT");
        Due.is(-4, Due.text(x, "dares ?"), "text() with a FAULT: FULL ahead of it");
        Due.is(7, x.count(4), "bytes of THE TAPE");
        Due.is(-4, x.text(), "text(), again");
        Due.is(7, x.count(4), "bytes of THE TAPE");
        Due.is(8, x.feed(' '), "feed() behind what stayed");
        Due.is(6, x.count(3), "TEXTS");
    }

    @Says(of = "Promise 8", text = "A TEXT is THE RULE: which was. BAD.")
    static void forceRefuses() {
        LawsLapse x = new LawsLapse();
        for (int text : new int[] {-1, 1, 5, 6, LEAST, MOST}) {
            Due.is(-2, x.force(text), "force(" + text + ")");
            Due.is(0, x.count(5), "THE RULE, unchanged");
        }
        for (int text = 1; text < 6; text++) {
            Due.is(-2, x.force(text), "force(" + text + ") ahead of it");
            Due.text(x, harms("1"));
            Due.is(text - 1, x.force(text), "force(" + text + ")");
            Due.is(text, x.count(5), "THE RULE");
        }
        Due.is(-2, x.force(6), "force(6)");
        Due.is(5, x.force(0), "force(0)");
        LawsLapse y = Given.ruled(harms("1"), CITIZEN, 0);
        Due.is(-106, Due.text(y, "dares ?"), "text() with a FAULT");
        Due.is(-2, y.force(2), "force(2): a FAULT makes no TEXT");
        Due.is(1, y.count(5), "THE RULE, unchanged");
    }
}
