/** Promises 6 to 8: feed, text, force. */
public final class TextsTest {
    private static final int CITIZEN = 0;

    public static void main(String[] args) {
        feed();
        textReads();
        textValues();
        faults();
        depth();
        full();
        force();
        Due.end("TextsTest");
    }

    private static void feed() {
        Due.of("promise 6");
        LawsLapse x = new LawsLapse();
        for (int letter : new int[] {-1, 256, Integer.MIN_VALUE, Integer.MAX_VALUE}) Due.is(-2, x.feed(letter), "feed(" + letter + ")");
        Due.is(0, x.count(4), "bytes of THE TAPE");
        for (int i = 0; i < 160; i++) Due.is(i + 1, x.feed(i == 0 ? 0 : i == 1 ? 255 : 32), "byte " + i);
        Due.is(-4, x.feed(32), "byte 160");
        Due.is(-2, x.feed(256), "BAD is named ahead of FULL");
        Due.is(160, x.count(4), "bytes of THE TAPE");
        Due.is(-100, x.text(), "byte 0 begins none");
        Due.is(0, x.count(4), "THE TAPE is empty by a FAULT, too");
        Due.is(1, x.feed(32), "a byte once more");
    }

    private static void textReads() {
        Due.of("promise 7");
        String[] good = {"dares 1 ; harms harm ; sits 1 ;", "dares 1;harms 1;sits 1;", " \n dares\n1;harms\nharm;sits 1; \n",
            "dares(1);harms(2);sits(3);", "dares not 1;harms-1;sits 0;",
            "dares harm or laws and number or not year;harms served*alive+1-0;sits harm<laws;",
            "dares 1=1;harms 9999;sits 0000;", "dares not not harm<1 and not 2;harms 1;sits 1;"};
        for (String text : good) {
            LawsLapse x = new LawsLapse();
            Due.is(1, Due.text(x, text), "text() of " + text);
            Due.is(0, x.count(4), "bytes of THE TAPE");
            Due.is(2, x.count(3), "TEXTS");
            Due.is(0, x.count(5), "THE RULE");
        }
        StringBuilder longest = new StringBuilder(" dares 1;harms 1;sits 1");
        while (longest.length() < 159) longest.append(longest.length() % 2 == 1 ? '+' : '1');
        longest.append(';');
        Due.is(1, Due.text(new LawsLapse(), longest.toString()), "text() of 160 bytes");
    }

    /** What E is, told by what a DEED COSTS a CITIZEN: of HARM 12, breaks 3 LAWS, NUMBER 4, YEAR 7, SERVED 5, 6 ALIVE. */
    private static int valueOf(String e) {
        LawsLapse x = new LawsLapse();
        x.person(CITIZEN, 4);
        x.set(4, 2, 12);
        x.set(3, 2, 7);
        x.set(2, 0, 7);
        x.set(7, 0, 5);
        x.set(0, 6, 0);
        x.set(0, 0, 0);
        Due.rule(x, "dares 1;harms " + e + ";sits 1;");
        return x.asks(0, 2, 1);
    }

    private static void textValues() {
        Due.of("promise 7, E");
        Object[][] due = {
            {"harm", 12}, {"laws", 3}, {"number", 4}, {"year", 7}, {"served", 5}, {"alive", 6},
            {"1+2*3", 7}, {"(1+2)*3", 9}, {"10-3-2", 5}, {"10-(3-2)", 9}, {"2*3+4*5", 26}, {"20-2*3", 14},
            {"3-5+9", 7}, {"--7", 7}, {"9--7", 16}, {"9+-7", 2}, {"-3*-4", 12}, {"-(3-5)", 2}, {"5*-1+7", 2},
            {"3<4", 1}, {"4<4", 0}, {"5<4", 0}, {"-5<4", 1}, {"4=4", 1}, {"4=5", 0}, {"1+1=2", 1}, {"2<1+2", 1},
            {"5 or 0", 1}, {"0 or 5", 1}, {"0 or 0", 0}, {"5 and 2", 1}, {"4 and 2", 1}, {"5 and 0", 0}, {"0 and 5", 0},
            {"-1 and -1", 1}, {"-1 or 0", 1}, {"not 5", 0}, {"not 0", 1}, {"not -1", 0}, {"not not 5", 1},
            {"1 or 0 and 0", 1}, {"(1 or 0) and 0", 0}, {"0 and 0 or 1", 1}, {"not 0 or 1", 1}, {"not (0 or 1)", 0},
            {"not 1 and 0", 0}, {"not (1 and 0)", 1}, {"not 1 = 0", 1}, {"not 2 < 1", 1}, {"(not 1)=0", 1}, {"1 = (not 0)", 1},
            {"0 and 0=0", 0}, {"0=0 and 2", 1}, {"5", 5}, {"(5)", 5}, {"0 or 1+1", 1}, {"not 1+1", 0}, {"not 1-1", 1},
            {"9999*9999*100", 999}, {"9999*9999*99", 999}, {"(9999*9999*43<0)", 0},
            {"(9999*9999*22<0)", 1}, {"0012", 12}, {"harm=12 and laws=3", 1}, {"harm<12 or 0", 0}};
        for (Object[] row : due) {
            Due.is((Integer) row[1], valueOf((String) row[0]), "the value of " + row[0]);
        }
        Due.is((int) (9999L * 9999 * 43) < 0 ? 1 : 0, valueOf("(9999*9999*43<0)"), "an int that wraps");
        int wraps = 9999 * 9999 * 9999;
        Due.is(wraps < 0 ? 0 : Math.min(999, wraps), valueOf("9999*9999*9999"), "an int that wraps");
    }

    private static void faults() {
        Due.of("promise 7, FAULT");
        Object[][] due = {
            {"", 0}, {"   ", 3}, {"\n", 1}, {"dares", 5}, {"dares 1", 7}, {"dares 1;", 8}, {"dares 1; ", 9},
            {"dares 1;harms", 13}, {"dares 1;harms 2;sits 3", 22}, {"dares 1;harms 2;sits 3  ", 24},
            {"harms 1;", 0}, {"1", 0}, {"dares ;", 6}, {"dares 1 harms 2;", 8}, {"dares 1;sits 2;", 8},
            {"dares 1;harms 2;harms 3;", 16}, {"dares 1;harms 2;sits 3;;", 23}, {"dares 1;harms 2;sits 3; dares", 24},
            {"dares 1;harms 2;sits 3; ?", 24}, {"dares 1;harms 2;sits 3; 1", 24}, {"dares 1;harms 2;sits 3; foo", 24},
            {"dares 1 2;", 8}, {"dares harm laws;", 11}, {"dares harm2;", 10}, {"dares 2harm;", 7}, {"dares 1 not 2;", 8},
            {"dares 1+not 2;", 8}, {"dares 1<not 2;", 8}, {"dares -not 2;", 7}, {"dares 1<2<3;", 9}, {"dares 1=2<3;", 9},
            {"dares 1<2=3;", 9}, {"dares (1;", 8}, {"dares 1);", 7}, {"dares ();", 7}, {"dares (1 2);", 9}, {"dares +1;", 6},
            {"dares 1+;", 8}, {"dares 1++1;", 8}, {"dares 1*;", 8}, {"dares *1;", 6}, {"dares 1+*1;", 8}, {"dares 1*+1;", 8},
            {"dares 1 or;", 10}, {"dares 1 and or 1;", 12}, {"dares or 1;", 6}, {"dares not;", 9}, {"dares -;", 7},
            {"dares 1<;", 8}, {"dares <1;", 6}, {"dares 12345;", 6}, {"dares 1 12345;", 8}, {"dares 00001;", 6},
            {"dares 1+12345", 8}, {"Dares 1;", 0}, {"dAres 1;", 0}, {"dares1;", 7}, {"dares X;", 6}, {"dares harmx;", 6},
            {"dares har;", 6}, {"dares harmharm;", 6}, {"dares 1;\tharms", 8}, {"dares 1\r;", 7}, {"dares 1?;", 7},
            {"dares 1 ?", 8}, {"dares 1/2;", 7}, {"dares 1>2;", 7}, {"dares {1};", 6}, {"dares `;", 6}, {"dares :;", 6},
            {"dares _;", 6}, {"dares dares;", 6}, {"dares 1 sits;", 8}, {"dares harms;", 6}, {"dares (1", 8}, {"dares (", 7},
            {"dares not", 9}, {"dares 1 or", 10}, {"dares 1;harms (2;", 16}, {"dares 1;harms 2 sits", 16}, {"dares\0 1;", 5},
            {"dares 1 and and 1;", 12}, {"dares orx;", 6}, {"xares 1;", 0}, {"dares xarm;", 6}, {"dares bot 1;", 6}, {"dares 1 xr 1;", 8}, {"dares 1 ond 1;", 8},
            {"dares sits 1);", 6}, {"dares sits;", 6}, {"dares 1;(harms 2;", 8}, {"dares (harms);", 7}, {"dares 1 orharm;", 8}, {"\u00ff", 0}, {"dares nota;", 6}};
        for (Object[] row : due) {
            LawsLapse x = new LawsLapse();
            Due.is(-100 - (Integer) row[1], Due.text(x, (String) row[0]), "text() of " + row[0]);
            Due.is(0, x.count(4), "bytes of THE TAPE, behind " + row[0]);
            Due.is(1, x.count(3), "TEXTS, behind " + row[0]);
            Due.is(1, Due.text(x, "dares 1;harms 2;sits 3;"), "a good one behind " + row[0]);
        }
        LawsLapse x = new LawsLapse();
        for (int i = 0; i < 160; i++) x.feed(' ');
        Due.is(-260, x.text(), "text() of 160 blanks");
        Due.is(-106, Due.text(x, "dares 12345;harmsharms;sits"), "a longer text");
        Due.is(-107, Due.text(x, "dares 1"), "a NUMBER ends where THE TAPE does, whatever stood behind");
        Due.is(-105, Due.text(x, "dares"), "a WORD ends where THE TAPE does");
        Due.text(x, "aaaaaaaaaaaaaaaaaaaaaaaaaaaaaaaaa");
        Due.is(-113, Due.text(x, "dares 1;harms"), "a WORD ends where THE TAPE does, whatever stood behind");
        for (char last : new char[] {'a', '1', '(', ' ', 'z', '9'}) {
            LawsLapse y = new LawsLapse();
            for (int i = 0; i < 159; i++) y.feed(' ');
            y.feed(last);
            Due.is(last == ' ' ? -260 : -259, y.text(), "text() of 159 blanks and " + last);
            for (int i = 0; i < 160; i++) y.feed(last);
            Due.is(last == ' ' ? -260 : -100, y.text(), "text() of 160 times " + last);
        }
        Due.is(-100, x.text(), "text() of nothing");
    }

    private static void depth() {
        Due.of("promise 7, what is open");
        Object[][] due = {
            {"(((((1)))))", 1}, {"((((((1))))))", -11}, {"-----1", 1}, {"------1", -11},
            {"not not not not not 1", 1}, {"not not not not not not 1", -26}, {"not not not -(1)", 1}, {"not not not -((1))", -20},
            {"not not not --(1)", -20}, {"not not not ---1", -20}, {"((((-(1)))))", -11}, {"((((not (1)))))", -14},
            {"(((((not 1)))))", -11}, {"(((((-1)))))", -11}, {"(((((1-1)))))", 1}, {"(((((1)))))+(((((2)))))", 1},
            {"-----1+-----1", 1}, {"-----1*-----1", 1}, {"-----1-------1", -18}, {"-----1------1", 1}, {"(1)+((((((1))))))", -15},
            {"not not not not not 1<-1", -28}, {"not not not not 1<-1", 1}, {"not not not not not 1 or not 1", 1},
            {"not not not not not 1 and -----1", 1}, {"-(-(-1))", 1}, {"-(-(-(1)))", -11}, {"not (not (not 1))", 1},
            {"not (not (-(1)))", -17}};
        for (Object[] row : due) {
            int want = (Integer) row[1] > 0 ? 1 : -100 + (Integer) row[1];
            Due.is(want, Due.text(new LawsLapse(), "dares " + row[0] + ";harms 1;sits 1;"), "text() of " + row[0]);
        }
        Due.is(-128, Due.text(new LawsLapse(), "dares (((((1)))));harms((((((1))))));sits 1;"), "nothing is open behind a ;");
    }

    private static void full() {
        Due.of("promise 7");
        LawsLapse x = new LawsLapse();
        for (int i = 1; i < 6; i++) {
            Due.is(-102, Due.text(x, "  x"), "a FAULT takes no room");
            Due.is(i, Due.text(x, "dares 1;harms " + i + ";sits 1;"), "text " + i);
        }
        Due.is(6, x.count(3), "TEXTS");
        Due.is(-4, x.text(), "FULL, of nothing");
        Due.is(1, x.feed('x'), "feed");
        Due.is(-4, x.text(), "FULL, ahead of a FAULT");
        Due.is(1, x.count(4), "THE TAPE stays");
        Due.is(2, x.feed('x'), "and goes on");
        x.person(CITIZEN, 0);
        for (int i = 0; i < 6; i++) {
            x.force(i);
            Due.is(i == 0 ? 10 : i, x.asks(0, 0, 1), "COSTS by TEXT " + i);
        }
    }

    private static void force() {
        Due.of("promise 8");
        LawsLapse x = new LawsLapse();
        for (int text : new int[] {-1, 1, 6, Integer.MIN_VALUE, Integer.MAX_VALUE}) Due.is(-2, x.force(text), "force(" + text + ")");
        Due.is(0, x.force(0), "force(0)");
        Due.text(x, "dares 0;harms 20;sits 3;");
        x.person(CITIZEN, 0);
        Due.is(1, x.asks(0, 0, 0), "by TEXT 0");
        Due.is(0, x.force(1), "force(1)");
        Due.is(1, x.count(5), "THE RULE");
        Due.is(0, x.asks(0, 0, 0), "by TEXT 1");
        Due.is(20, x.asks(0, 0, 1), "by TEXT 1");
        Due.is(3, x.asks(0, 0, 2), "by TEXT 1");
        Due.is(-2, x.force(2), "force(2)");
        Due.is(1, x.count(5), "THE RULE, unchanged");
        Due.is(1, x.force(0), "force(0)");
        Due.is(10, x.asks(0, 0, 1), "by TEXT 0 again");
    }
}
