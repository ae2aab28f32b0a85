/** Promises 1 to 5: a new object, set, person, told, asks. */
public final class PeopleTest {
    private static final int CITIZEN = 0, POLICEMAN = 1, CLERK = 2, SPEAKER = 3, ANTIQUARY = 4, THIEF = 5;
    private static final int LEAST = Integer.MIN_VALUE, MOST = Integer.MAX_VALUE;

    public static void main(String[] args) {
        aNewObject();
        setAnswersWhatItWas();
        setRefuses();
        person();
        told();
        dares();
        daresByTheText();
        daresWithinItsBounds();
        daresBelowZeroEverywhere();
        costs();
        sits();
        asksRefuses();
        Due.end("PeopleTest");
    }

    private static void aNewObject() {
        Due.of("promise 1");
        LawsLapse x = new LawsLapse();
        for (int law = 0; law < 8; law++) Due.is(2, x.told(law, 0), "LEFT");
        Due.is(2, x.told(0, 1), "TERM");
        Due.is(0, x.told(0, 2), "YEAR");
        for (int deed = 0; deed < 10; deed++) {
            Due.is(1 << deed % 8, x.told(deed, 3), "what a DEED breaks");
            Due.is(10, x.told(deed, 4), "HARM");
        }
        Due.is(255, x.told(0, 10), "ALIVE");
        Due.is(0, x.told(0, 11), "BROKEN");
        Due.is(0, x.told(0, 12), "COST");
        int[] counts = {0, 8, 0, 1, 0, 0};
        for (int what = 0; what < 6; what++) Due.is(counts[what], x.count(what), "count(" + what + ")");
        Due.is(-3, x.back(), "back()");
        for (int sheet = 0; sheet < 4; sheet++) Due.is(-11, x.cell(sheet, 0, 0), "cell of a missing SHEET");
    }

    private static void setAnswersWhatItWas() {
        Due.of("promise 2");
        LawsLapse x = new LawsLapse();
        x.person(CITIZEN, 3);
        int[] least = {0, 1, 0, 0, 0, 0, 0, 0};
        int[] most = {9, 9, 999, 255, 99, 9, 99, 99};
        int[] first = {2, 2, 0, 1, 10, 3, 0, 0};
        for (int what = 0; what < 8; what++) {
            Due.is(first[what], x.set(what, 0, most[what]), "set(" + what + ", 0, most)");
            Due.is(most[what], x.told(0, what), "told(0, " + what + ")");
            Due.is(most[what], x.set(what, 0, least[what]), "set(" + what + ", 0, least)");
            Due.is(least[what], x.told(0, what), "told(0, " + what + ")");
        }
        Due.is(1, x.set(1, -7, 5), "set(1, ..): of does not matter");
        Due.is(0, x.set(2, MOST, 5), "set(2, ..): of does not matter");
        Due.is(5, x.told(-7, 1), "TERM");
        Due.is(5, x.told(0, 2), "YEAR");
        Due.is(2, x.set(0, 7, 4), "the last LAW");
        Due.is(2, x.set(3, 9, 4), "the last DEED");
        Due.is(10, x.set(4, 9, 4), "its HARM");
    }

    private static void setRefuses() {
        Due.of("promise 2");
        LawsLapse x = new LawsLapse();
        x.person(CITIZEN, 3);
        int[] below = {-1, 0, -1, -1, -1, -1, -1, -1};
        int[] above = {10, 10, 1000, 256, 100, 10, 100, 100};
        int[] none = {8, 0, 0, 10, 10, 1, 1, 1};
        int[] was = {2, 2, 0, 1, 10, 3, 0, 0};
        for (int what = 0; what < 8; what++) {
            int[] wrong = {below[what], above[what], LEAST, MOST};
            for (int v : wrong) Due.is(-2, x.set(what, 0, v), "set(" + what + ", 0, " + v + ")");
            if (what != 1 && what != 2) {
                Due.is(-2, x.set(what, none[what], 1), "set(" + what + ", none such, 1)");
                Due.is(-2, x.set(what, -1, 1), "set(" + what + ", -1, 1)");
                Due.is(-2, x.set(what, MOST, 1), "set(" + what + ", most, 1)");
            }
            Due.is(was[what], x.told(0, what), "told(0, " + what + "), unchanged");
        }
        for (int what : new int[] {-1, 8, 9, 10, 11, 12, 13, LEAST, MOST}) Due.is(-2, x.set(what, 0, 1), "set(" + what + ", 0, 1)");
        Due.is(1, x.does(0, 0), "does(0, 0)");
        Due.is(2, x.set(0, 0, 5), "a LAW with other years LEFT");
        Due.is(1, x.told(0, 11), "is BROKEN still");
        Due.is(5, x.set(0, 0, 0), "a LAW that becomes LAPSED");
        Due.is(0, x.told(0, 11), "isn't BROKEN any more");
        Due.is(0, x.set(0, 0, 1), "and ALIVE again");
        Due.is(0, x.told(0, 11), "isn't BROKEN");
        Due.is(255, x.told(0, 10), "ALIVE");
    }

    private static void person() {
        Due.of("promise 3");
        LawsLapse x = new LawsLapse();
        int[][] wrong = {{-1, 0}, {6, 0}, {0, -1}, {0, 10}, {LEAST, 0}, {MOST, 0}, {0, LEAST}, {0, MOST}};
        for (int[] a : wrong) Due.is(-2, x.person(a[0], a[1]), "person(" + a[0] + ", " + a[1] + ")");
        Due.is(0, x.person(THIEF, 9), "person(5, 9)");
        Due.is(1, x.person(CITIZEN, 0), "person(0, 0)");
        Due.is(2, x.person(CLERK, 4), "person(2, 4)");
        Due.is(3, x.person(SPEAKER, 1), "person(3, 1)");
        Due.is(-4, x.person(CITIZEN, 0), "a fifth");
        Due.is(-2, x.person(6, 0), "BAD is named ahead of FULL");
        Due.is(4, x.count(0), "PEOPLE");
        Due.is(9, x.told(0, 5), "NUMBER");
        Due.is(5, x.told(0, 8), "KIND");
        Due.is(0, x.told(0, 6), "SITS");
        Due.is(0, x.told(0, 7), "SERVED");

        LawsLapse y = new LawsLapse();
        y.person(CITIZEN, 0);
        y.image();
        y.person(THIEF, 3);
        y.set(6, 1, 9);
        y.set(7, 1, 9);
        y.back();
        Due.is(1, y.person(CLERK, 5), "one who comes where one went");
        Due.is(0, y.told(1, 6), "does not SIT");
        Due.is(0, y.told(1, 7), "has SERVED 0");
        Due.is(2, y.told(1, 8), "is of the KIND told");
    }

    private static void told() {
        Due.of("promise 4");
        LawsLapse x = new LawsLapse();
        x.person(CLERK, 6);
        int[][] none = {{-1, 0}, {8, 0}, {-1, 3}, {10, 3}, {-1, 4}, {10, 4}, {-1, 5}, {1, 5}, {1, 6}, {1, 7}, {1, 8}, {1, 9}, {-1, 9},
            {0, 13}, {0, -1}, {0, LEAST}, {0, MOST}, {MOST, 0}, {LEAST, 5}};
        for (int[] a : none) Due.is(-1000, x.told(a[0], a[1]), "told(" + a[0] + ", " + a[1] + ")");
        for (int what : new int[] {1, 2, 10, 11, 12}) {
            Due.is(x.told(0, what), x.told(-9, what), "told(-9, " + what + "): of does not matter");
        }
        x.set(4, 3, 20);
        x.set(4, 9, 19);
        Due.is(1023 - 8, x.told(0, 9), "DEEDS a CLERK CAN do");
        x.set(6, 0, 1);
        Due.is(0, x.told(0, 9), "none while one SITS");
        x.set(6, 0, 0);
        x.set(0, 2, 0);
        x.set(0, 7, 0);
        Due.is(255 - 4 - 128, x.told(0, 10), "ALIVE");
        x.does(0, 1);
        Due.is(2, x.told(0, 11), "BROKEN");
        Due.is(4, x.told(0, 12), "COST: 10 less 6");
    }

    /** By a rule by which nobody dares: what is left is what a KIND dares of itself. */
    private static void dares() {
        Due.of("promise 5, DARES");
        LawsLapse x = new LawsLapse();
        Due.rule(x, "dares 0; harms 7; sits 5;");
        x.person(CITIZEN, 0);
        x.person(POLICEMAN, 2);
        x.person(SPEAKER, 2);
        x.person(ANTIQUARY, 0);
        Due.is(0, x.told(0, 9), "a CITIZEN: if yes");
        Due.is(4, x.told(1, 9), "a POLICEMAN: what breaks LAW NUMBER");
        x.set(3, 5, 255);
        Due.is(4 + 32, x.told(1, 9), "a POLICEMAN: what breaks LAW NUMBER, and others");
        x.set(5, 1, 8);
        Due.is(0, x.told(1, 9), "NUMBER 8 is no LAW");
        x.set(5, 1, 9);
        Due.is(0, x.told(1, 9), "NUMBER 9 is no LAW");
        x.set(5, 1, 0);
        Due.is(1 + 32 + 256, x.told(1, 9), "LAW 0");
        x.set(0, 0, 0);
        Due.is(1 + 32 + 256, x.told(1, 9), "a LAW that is LAPSED, too");
        x.set(5, 1, 7);
        Due.is(128 + 32, x.told(1, 9), "LAW 7");
        Due.is(0, x.told(2, 9), "a SPEAKER in an even YEAR");
        x.set(2, 0, 1);
        Due.is(4 + 32, x.told(2, 9), "a SPEAKER in an odd YEAR");
        x.set(2, 0, 998);
        Due.is(0, x.told(2, 9), "a SPEAKER in an even YEAR");
        x.set(5, 2, 9);
        x.set(2, 0, 999);
        Due.is(0, x.told(2, 9), "a SPEAKER of NUMBER 9");
        Due.is(0, x.told(3, 9), "an ANTIQUARY: if all have but 1 year LEFT");
        x.set(0, 1, 1);
        x.set(0, 3, 1);
        Due.is(2 + 8 + 512, x.told(3, 9), "an ANTIQUARY: LAWS 1 and 3 have but 1");
        x.set(3, 1, 2 + 8);
        x.set(3, 3, 8 + 16);
        x.set(3, 9, 2 + 1);
        Due.is(2, x.told(3, 9), "an ANTIQUARY: all of them; one LAPSED has none");
        x.set(3, 4, 0);
        Due.is(2, x.told(3, 9), "an ANTIQUARY: and it breaks any");
        x.set(4, 1, 99);
        Due.is(1, x.asks(3, 1, 0), "an ANTIQUARY: whatever HARM it is, by the years LEFT");
        x.set(6, 3, 4);
        Due.is(1, x.asks(3, 1, 0), "one DARES it while one SITS");
        Due.is(0, x.told(3, 9), "but CAN'T do it");

        LawsLapse y = new LawsLapse();
        Due.rule(y, "dares 0; harms 7; sits 5;");
        y.person(THIEF, 0);
        Due.is(0, y.told(0, 9), "a THIEF where all is ALIVE");
        y.set(3, 4, 0);
        Due.is(16, y.told(0, 9), "a THIEF: what breaks none");
        y.set(0, 2, 0);
        y.set(3, 5, 4);
        y.set(3, 6, 4 + 8);
        Due.is(16 + 4 + 32, y.told(0, 9), "a THIEF: what breaks none that is ALIVE");
        y.person(CLERK, 1);
        Due.is(0, y.told(1, 9), "a CLERK: if yes");
    }

    private static void daresByTheText() {
        Due.of("promise 5, DARES");
        LawsLapse x = new LawsLapse();
        Due.rule(x, "dares 20-harm; harms harm; sits 1;");
        int[] harms = {0, 19, 20, 21, 99};
        for (int deed = 0; deed < 5; deed++) x.set(4, deed, harms[deed]);
        for (int deed = 5; deed < 10; deed++) x.set(4, deed, 20);
        for (int kind = 0; kind < 4; kind++) x.person(kind, 9);
        Due.is(1 + 2, x.told(0, 9), "a CITIZEN: what isn't 0 is yes; what is below 0 tells 0");
        Due.is(1 + 2, x.told(1, 9), "a POLICEMAN: if yes");
        Due.is(1 + 2, x.told(2, 9), "a CLERK: if yes");
        Due.is(1 + 2, x.told(3, 9), "a SPEAKER: else if yes");
        x.set(2, 0, 1);
        Due.is(1 + 2, x.told(3, 9), "a SPEAKER: as a POLICEMAN, if yes");
        Due.rule(x, "dares harm-20; harms harm; sits 1;");
        Due.is(8 + 16, x.told(0, 9), "a CITIZEN: what isn't 0 is yes; what is below 0 tells 0");
        Due.is(8 + 16, x.told(1, 9), "a POLICEMAN: if yes");
        Due.is(0, x.told(2, 9), "a CLERK: and HARM of it is below 20");
        Due.is(8 + 16, x.told(3, 9), "a SPEAKER: as a POLICEMAN, if yes");

        x.force(0);
        Due.is(1023, x.told(0, 9), "a CITIZEN: all, by TEXT 0");
        Due.is(1 + 2, x.told(2, 9), "a CLERK: what is below 20, by TEXT 0");

        LawsLapse y = new LawsLapse();
        y.person(ANTIQUARY, 9);
        for (int deed = 0; deed < 5; deed++) y.set(4, deed, harms[deed]);
        Due.is(1023 - 4 - 8 - 16, y.told(0, 9), "an ANTIQUARY: what is below 20, by TEXT 0");

        y = new LawsLapse();
        Due.rule(y, "dares 20-harm; harms harm; sits 1;");
        for (int deed = 0; deed < 5; deed++) y.set(4, deed, harms[deed]);
        for (int deed = 5; deed < 10; deed++) y.set(4, deed, 20);
        y.person(ANTIQUARY, 9);
        y.person(THIEF, 9);
        Due.is(1 + 2, y.told(0, 9), "an ANTIQUARY: as a CLERK");
        Due.is(1 + 2, y.told(1, 9), "a THIEF: else if yes");
        Due.rule(y, "dares harm-20; harms harm; sits 1;");
        Due.is(0, y.told(0, 9), "an ANTIQUARY: as a CLERK");
        Due.is(8 + 16, y.told(1, 9), "a THIEF: else if yes");
    }

    /** What dares tells is 0 .. 999, else the bound: nothing below 0 is yes, wherever a DEED is DARED. */
    private static void daresWithinItsBounds() {
        Due.of("promise 5, dares (0 .. 999, else the bound)");
        String[] texts = {"-1", "-999", "-1000", "0", "--0", "1-2", "0-(1=1)", "9999*9999*22", "-(9999*9999*43)", "1", "--1", "999", "1000",
            "9999", "-1<0", "-1 or 0", "not 0", "not -1", "not (-1<0)", "-1 and -1", "-1*-1", "-1*1"};
        int[] yes = {0, 0, 0, 0, 0, 0, 0, 0, 0, 1, 1, 1, 1, 1, 1, 1, 1, 0, 0, 1, 1, 0};
        for (int i = 0; i < texts.length; i++) {
            for (int kind = 0; kind < 6; kind++) {
                LawsLapse x = new LawsLapse();
                Due.rule(x, "dares " + texts[i] + "; harms harm; sits 0;");
                x.person(kind, 9);
                String of = "KIND " + kind + ", dares " + texts[i];
                Due.is(yes[i], x.asks(0, 0, 0), "asks: " + of);
                Due.is(yes[i] * 1023, x.told(0, 9), "told: " + of);
            }
        }
        LawsLapse x = new LawsLapse();
        Due.rule(x, "dares 0-9999*9999*22-9999*9999*22; harms harm; sits 0;");
        x.person(CITIZEN, 0);
        int wraps = -9999 * 9999 * 22 - 9999 * 9999 * 22;
        Due.is(wraps > 0 ? 1 : 0, x.asks(0, 0, 0), "an int that wraps");
    }

    private static void daresBelowZeroEverywhere() {
        Due.of("a dares below 0 tells 0");
        LawsLapse x = new LawsLapse();
        Due.rule(x, "dares year-1; harms 7; sits 0;");
        x.person(CITIZEN, 0);
        Due.is(0, x.asks(0, 0, 0), "asks");
        Due.is(7, x.asks(0, 0, 1), "what it COSTS");
        Due.is(0, x.told(0, 9), "told");
        Due.is(-3, x.does(0, 0), "does");
        Due.is(0, x.told(0, 11), "BROKEN, unchanged");
        Due.is(0, x.run(2, 2), "run: none in YEARS 0 and 1");
        Due.is(0, x.run(2, 0), "run: all LAPSE");
        Due.is(2, x.lasts(0), "lasts");
        Due.is(0, x.rota(0), "rota");
        Due.is(0, x.rota(1), "rota");
        for (int seed = 0; seed < 200; seed++) Due.is(0, x.drawn(seed, 2), "drawn(" + seed + ", 2)");
        Due.is(0, x.chance(1, 20, 1, 0), "chance");
        Due.is(0, x.film(0, 0), "film");
        Due.tell(x, 1, -1, -1, -1);
        Due.is(-1, x.tells(1, 0, 0), "tells: the first that is otherwise");
        Due.is(2, x.tells(1, 0, 3), "tells: YEARS 0 and 1");
        Due.is(0, x.tells(1, 0, 4), "tells: the least YEAR");
        Due.is(1, x.tells(1, 0, 8), "tells: PEOPLE");
        x.set(2, 0, 2);
        Due.is(1, x.asks(0, 0, 0), "asks in YEAR 2");
        Due.is(1, x.does(0, 0), "does in YEAR 2");
        Due.is(10, x.film(0, 0), "film in YEAR 2");

        int[] due = {0, 4, 0, 4, 64, 2};
        for (int kind = 0; kind < 6; kind++) {
            LawsLapse z = new LawsLapse();
            Due.rule(z, "dares -1; harms 7; sits 0;");
            z.person(kind, 2);
            z.set(3, 1, 0);
            z.set(2, 0, 1);
            z.set(0, 6, 1);
            Due.is(due[kind], z.told(0, 9), "what KIND " + kind + " DARES of itself");
        }
    }

    private static void costs() {
        Due.of("promise 5, COSTS");
        int[] v = {15, 0, 3, 999, 1000, -4};
        String[] texts = {"15", "0", "3", "999", "9999", "-4"};
        int[][] due = {
            {15, 0, 3, 999, 999, 0}, {7, 0, 1, 499, 499, 0}, {11, 0, 0, 995, 995, 0},
            {12, 5, 6, 504, 504, 5}, {14, 3, 3, 998, 998, 3}, {30, 0, 6, 999, 999, 0}};
        for (int kind = 0; kind < 6; kind++) {
            for (int i = 0; i < v.length; i++) {
                LawsLapse x = new LawsLapse();
                Due.rule(x, "dares 1; harms " + texts[i] + "; sits 1;");
                x.person(kind, 4);
                x.set(3, 8, 7);
                Due.is(due[kind][i], x.asks(0, 8, 1), "KIND " + kind + ", harms " + texts[i]);
            }
        }
        LawsLapse x = new LawsLapse();
        Due.rule(x, "dares 1; harms 998; sits 1;");
        x.person(ANTIQUARY, 0);
        x.set(3, 0, 255);
        x.set(0, 0, 0);
        Due.is(999, x.asks(0, 0, 1), "an ANTIQUARY: 999 at most");
        x.set(3, 0, 0);
        Due.is(998, x.asks(0, 0, 1), "an ANTIQUARY by a DEED that breaks none");

        LawsLapse y = new LawsLapse();
        y.person(ANTIQUARY, 3);
        y.set(3, 0, 1 + 2 + 4);
        y.set(0, 1, 0);
        Due.is(10, y.asks(0, 0, 1), "an ANTIQUARY: 7 and 3, LAPSED ones too");
        y.set(4, 0, 1);
        Due.is(3, y.asks(0, 0, 1), "an ANTIQUARY: 0 at least, and 3");
    }

    private static void sits() {
        Due.of("promise 5, SITS");
        String[] texts = {"2", "0", "3", "4", "99", "100", "-1"};
        int[][] due = {
            {2, 0, 3, 4, 99, 99, 0}, {0, 0, 0, 0, 0, 0, 0}, {2, 0, 3, 3, 3, 3, 0},
            {1, 1, 1, 1, 1, 1, 1}, {4, 0, 6, 6, 6, 6, 0}, {1, 1, 1, 1, 1, 1, 1}};
        for (int kind = 0; kind < 6; kind++) {
            for (int i = 0; i < texts.length; i++) {
                LawsLapse x = new LawsLapse();
                Due.rule(x, "dares 1; harms harm; sits " + texts[i] + ";");
                x.person(kind, 4);
                Due.is(due[kind][i], x.asks(0, 8, 2), "KIND " + kind + ", sits " + texts[i]);
            }
        }
        LawsLapse x = new LawsLapse();
        x.person(SPEAKER, 5);
        Due.is(0, x.asks(0, 0, 2), "a SPEAKER of NUMBER 5");
        x.person(THIEF, 5);
        int[] served = {0, 1, 97, 98, 99};
        int[] sits = {1, 2, 98, 99, 99};
        for (int i = 0; i < served.length; i++) {
            x.set(7, 1, served[i]);
            Due.is(sits[i], x.asks(1, 0, 2), "a THIEF who SERVED " + served[i]);
        }
    }

    private static void asksRefuses() {
        Due.of("promise 5");
        LawsLapse x = new LawsLapse();
        Due.is(-2, x.asks(0, 0, 0), "nobody");
        x.person(CITIZEN, 0);
        int[][] wrong = {{-1, 0, 0}, {1, 0, 0}, {0, -1, 0}, {0, 10, 0}, {0, 0, -1}, {0, 0, 3},
            {LEAST, 0, 0}, {MOST, 0, 0}, {0, LEAST, 0}, {0, MOST, 0}, {0, 0, LEAST}, {0, 0, MOST}};
        for (int[] a : wrong) Due.is(-2, x.asks(a[0], a[1], a[2]), "asks(" + a[0] + ", " + a[1] + ", " + a[2] + ")");
        Due.is(1, x.asks(0, 9, 0), "asks(0, 9, 0)");
        Due.is(10, x.asks(0, 9, 1), "asks(0, 9, 1)");
        Due.is(1, x.asks(0, 9, 2), "asks(0, 9, 2)");
    }
}
