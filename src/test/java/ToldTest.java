import java.util.Arrays;

/** Promises 18 to 24: tells, film, drawn, chance, image, back, count. */
public final class ToldTest {
    private static final int CITIZEN = 0, POLICEMAN = 1, CLERK = 2, SPEAKER = 3, ANTIQUARY = 4, THIEF = 5;
    private static final int LEAST = Integer.MIN_VALUE, MOST = Integer.MAX_VALUE;

    public static void main(String[] args) {
        tellsTheFirst();
        tellsKindsAndNumbers();
        tellsYearsAndServed();
        tellsTextsAndPeople();
        tellsBySorts();
        tellsRefuses();
        film();
        filmRefuses();
        drawn();
        chance();
        imageAndBack();
        count();
        Due.end("ToldTest");
    }

    private static void tellsTheFirst() {
        Due.of("promise 18, the first that is otherwise");
        LawsLapse x = new LawsLapse();
        x.person(CLERK, 3);
        x.set(4, 2, 20);
        x.set(4, 3, 2);
        Due.tell(x, 0, 7, 7, -1, 0, 7, 7, 7, 7, 7, 7);
        Due.is(-1, x.tells(0, 0, 0), "tells: all is so");
        for (int i = 9; i >= 0; i--) {
            x.cell(0, i, 8);
            Due.is(i, x.tells(0, 0, 0), "tells: item " + i + " is otherwise");
        }
        Due.tell(x, 0, 7, 7, 17);
        Due.is(2, x.tells(0, 0, 0), "one doesn't DARE it, whatever it COSTS");
        Due.tell(x, 0, -1);
        Due.is(0, x.tells(0, 0, 0), "one DARES it");
        Due.tell(x, 0);
        Due.is(-1, x.tells(0, 0, 0), "nothing is told");
        x.set(6, 0, 9);
        Due.tell(x, 0, 7, 7, -1);
        Due.is(-1, x.tells(0, 0, 0), "it is so while one SITS");
    }

    private static void tellsKindsAndNumbers() {
        Due.of("promise 18, KINDS and NUMBERS");
        LawsLapse x = new LawsLapse();
        x.person(CLERK, 3);
        x.set(4, 1, 25);
        Due.tell(x, 1, 7, -1);
        Due.is(1 << CLERK, x.tells(1, 0, 1), "a CLERK: an ANTIQUARY COSTS 1 more");
        Due.is(1 << 3, x.tells(1, 0, 2), "of NUMBER 3");
        Due.tell(x, 1, 8, -1);
        Due.is(1 << ANTIQUARY, x.tells(1, 0, 1), "an ANTIQUARY");
        Due.is(1 << 2, x.tells(1, 0, 2), "of NUMBER 2");
        Due.tell(x, 1, 10, 25);
        Due.is(1 << CITIZEN, x.tells(1, 0, 1), "a CITIZEN; a SPEAKER COSTS 10 and 17");
        Due.is(0, x.tells(1, 0, 2), "none by a NUMBER: a CLERK doesn't DARE DEED 1");
        Due.tell(x, 1, 10);
        Due.is(1 << CITIZEN | 1 << SPEAKER, x.tells(1, 0, 1), "a CITIZEN, or a SPEAKER: 5 and 5");
        Due.is(1, x.tells(1, 0, 2), "of NUMBER 0");
        Due.tell(x, 1, 5);
        Due.is(1 << POLICEMAN, x.tells(1, 0, 1), "a POLICEMAN");
        Due.tell(x, 1, 20);
        Due.is(1 << THIEF, x.tells(1, 0, 1), "a THIEF");
        x.set(4, 0, 1);
        Due.tell(x, 1, 0);
        Due.is(1 << CLERK | 1 << POLICEMAN, x.tells(1, 0, 1), "a CLERK, or a POLICEMAN");
        Due.is(1023 - 1, x.tells(1, 0, 2), "of any NUMBER but 0");
        Due.is(2, x.told(0, 8), "KIND, unchanged");
        Due.is(3, x.told(0, 5), "NUMBER, unchanged");
    }

    private static void tellsOf(LawsLapse x, int many, int least, int served, int leastServed, String of) {
        Due.is(many, x.tells(1, 0, 3), "how many YEARS: " + of);
        Due.is(least, x.tells(1, 0, 4), "the least YEAR: " + of);
        Due.is(served, x.tells(1, 0, 5), "how many SERVED: " + of);
        Due.is(leastServed, x.tells(1, 0, 6), "the least SERVED: " + of);
    }

    private static void tellsYearsAndServed() {
        Due.of("promise 18, YEARS and SERVED");
        LawsLapse x = new LawsLapse();
        x.person(CITIZEN, 3);
        Due.rule(x, "dares 1; harms year+served*2; sits 1;");
        x.set(2, 0, 10);
        x.set(7, 0, 4);
        Due.tell(x, 1, 18);
        tellsOf(x, 1, 10, 1, 4, "18");
        Due.tell(x, 1, 21);
        tellsOf(x, 1, 13, 0, -1, "21");
        Due.tell(x, 1, 107);
        tellsOf(x, 1, 99, 0, -1, "107");
        Due.tell(x, 1, 108);
        tellsOf(x, 0, -1, 1, 49, "108: YEAR 100 isn't looked at");
        Due.tell(x, 1, 208);
        tellsOf(x, 0, -1, 1, 99, "208");
        Due.tell(x, 1, 7);
        tellsOf(x, 0, -1, 0, -1, "7");
        Due.tell(x, 1, 8);
        tellsOf(x, 1, 0, 0, -1, "8");
        Due.tell(x, 1);
        tellsOf(x, 100, 0, 100, 0, "nothing");
        x.set(2, 0, 500);
        Due.is(100, x.tells(1, 0, 3), "YEARS, now 500");
        Due.rule(x, "dares 40<year and served<90; harms 1; sits 1;");
        Due.tell(x, 1, -1, -1);
        tellsOf(x, 41, 0, 10, 90, "it isn't DARED");
        Due.tell(x, 1, 1, 1);
        tellsOf(x, 59, 41, 90, 0, "it is DARED");
        Due.tell(x, 1, 1, -1);
        tellsOf(x, 0, -1, 0, -1, "one is, one isn't");
        Due.is(500, x.told(0, 2), "YEAR, unchanged");
        Due.is(4, x.told(0, 7), "SERVED, unchanged");
    }

    private static void tellsTextsAndPeople() {
        Due.of("promise 18, TEXTS and PEOPLE");
        LawsLapse x = new LawsLapse();
        x.person(CITIZEN, 3);
        x.person(CLERK, 0);
        x.person(THIEF, 0);
        x.person(CITIZEN, 9);
        Due.tell(x, 3, 10, 10);
        Due.is(1, x.tells(3, 0, 7), "TEXT 0");
        Due.is(1 + 2 + 8, x.tells(3, 0, 8), "PEOPLE");
        Due.is(1 + 2 + 8, x.tells(3, 2, 8), "PEOPLE, whoever is asked for");
        Due.is(0, x.tells(3, 2, 7), "TEXT 0, of a THIEF");
        Due.text(x, "dares 1; harms 5*2; sits 1;");
        Due.text(x, "dares 0; harms 10; sits 1;");
        Due.text(x, "dares number; harms 10; sits 1;");
        Due.text(x, "dares 1; harms 5; sits 1;");
        Due.is(1 + 2 + 8, x.tells(3, 0, 7), "TEXTS, of a CITIZEN");
        Due.is(1 + 2, x.tells(3, 1, 7), "TEXTS, of a CLERK");
        Due.is(16, x.tells(3, 2, 7), "TEXTS, of a THIEF");
        x.force(2);
        Due.is(1 + 2 + 8, x.tells(3, 0, 7), "TEXTS, whichever is THE RULE");
        Due.is(0, x.tells(3, 0, 8), "PEOPLE, by TEXT 2");
        Due.is(0, x.tells(3, 0, 0), "the first, by TEXT 2");
        x.force(3);
        Due.is(1 + 8, x.tells(3, 1, 8), "PEOPLE, by TEXT 3");
        Due.is(3, x.count(5), "THE RULE, unchanged");
        Due.text(x, "dares number; harms 10; sits 1;");
        Due.is(1 + 2 + 8 + 32, x.tells(3, 3, 7), "TEXTS, the last too");
    }

    private static void tellsBySorts() {
        Due.of("promise 18, sorts");
        LawsLapse x = new LawsLapse();
        Due.rule(x, "dares number=0; harms 200; sits 1;");
        x.person(CITIZEN, 1);
        for (int sort = 0; sort < 3; sort++) {
            x.sheet(0, sort, 2);
            x.cell(0, 0, -1);
            x.cell(0, 1, -1);
            Due.is(-1, x.tells(0, 0, 0), "NONE in sort " + sort);
            x.set(5, 0, 0);
            x.cell(0, 0, 200);
            x.cell(0, 1, 65536 + 200);
            Due.is(sort == 0 ? 0 : sort == 1 ? -1 : 1, x.tells(0, 0, 0), "200 in sort " + sort);
            x.set(5, 0, 1);
        }
    }

    private static void tellsRefuses() {
        Due.of("promise 18");
        LawsLapse x = new LawsLapse();
        Due.is(-2, x.tells(0, 0, 0), "nobody, nothing");
        x.person(CITIZEN, 1);
        Due.is(-11, x.tells(0, 0, 0), "a missing SHEET");
        Due.is(-2, x.tells(0, 1, 0), "BAD is named ahead of -11");
        Due.is(-2, x.tells(0, 0, 9), "BAD is named ahead of -11");
        x.sheet(0, 0, 10);
        int[][] wrong = {{-1, 0, 0}, {4, 0, 0}, {0, -1, 0}, {0, 1, 0}, {0, 0, -1}, {0, 0, 9},
            {LEAST, 0, 0}, {MOST, 0, 0}, {0, LEAST, 0}, {0, MOST, 0}, {0, 0, LEAST}, {0, 0, MOST}};
        for (int[] a : wrong) Due.is(-2, x.tells(a[0], a[1], a[2]), "tells(" + a[0] + ", " + a[1] + ", " + a[2] + ")");
        Due.is(0, x.tells(0, 0, 0), "it tells 10");
        x.sheet(0, 0, 11);
        for (int what = 0; what < 9; what++) Due.is(-2, x.tells(0, 0, what), "it tells 11");
        x.sheet(0, -1, 0);
        Due.is(-11, x.tells(0, 0, 0), "a SHEET that is missing again");
    }

    private static void film() {
        Due.of("promise 19");
        LawsLapse x = new LawsLapse();
        x.person(CLERK, 4);
        x.person(CITIZEN, 0);
        x.set(4, 3, 20);
        x.set(4, 9, 99);
        x.set(4, 0, 2);
        Due.is(8, x.film(2, 0), "film of a CLERK");
        Due.is(-1, x.tells(2, 0, 0), "it is so");
        Due.is(0, x.tells(2, 1, 0), "it isn't so of a CITIZEN");
        Due.tell(x, 0, 0, 6, 6, -1, 6, 6, 6, 6, 6, -1);
        Due.is(-1, x.tells(0, 0, 0), "what it should tell");
        Due.is(-13, x.copy(0, 0, 2, 0, 1), "it isn't of ints");
        x.sheet(0, 1, 20);
        Due.is(10, x.copy(2, 0, 0, 0, 10), "it is of 10 shorts");
        Due.is(-12, x.copy(2, 0, 0, 0, 11), "it is of no more");
        x.set(6, 0, 9);
        Due.is(8, x.film(2, 0), "film of one who SITS");
        x.sheet(2, 2, 40);
        Due.is(10, x.film(2, 1), "film over another");
        Due.is(1, x.cell(2, 9, 70000), "its last");
        Due.is(-12, x.cell(2, 10, 1), "behind its last");
        Due.is(9, x.tells(2, 1, 0), "70000 is not 99");
        x.cell(2, 9, 65536 + 99);
        Due.is(-1, x.tells(2, 1, 0), "its lowest 16 bits are");
        Due.is(8, x.film(0, 0), "film of a CLERK once more");
        Due.is(-1, x.tells(2, 1, 0), "another SHEET is as it was");
        x.film(3, 0);
        // Its first two items are 0 and 6: a CITIZEN of NUMBER 6.
        Due.is(1, x.republic(3, 1, 0, 1), "republic by a film");
        Due.is(6, x.told(2, 5), "NUMBER");
    }

    private static void filmRefuses() {
        Due.of("promise 19");
        LawsLapse x = new LawsLapse();
        Due.is(-2, x.film(0, 0), "nobody");
        x.person(CITIZEN, 0);
        int[][] wrong = {{-1, 0}, {4, 0}, {0, -1}, {0, 1}, {LEAST, 0}, {MOST, 0}, {0, LEAST}, {0, MOST}};
        for (int[] a : wrong) Due.is(-2, x.film(a[0], a[1]), "film(" + a[0] + ", " + a[1] + ")");
        Due.is(-11, x.cell(0, 0, 0), "the SHEET is missing still");
        Due.is(10, x.film(0, 0), "film");
    }

    /** A seed by which, first, one of this number does this DEED. */
    private static int seedOf(int one, int deed) {
        for (int seed = 0; seed < 1000000; seed++) {
            int z = seed * 1103515245 + 12345;
            int y = z * 1103515245 + 12345;
            if ((z >>> 9) % 8 == one && (y >>> 9) % 10 == deed) return seed;
        }
        return -1;
    }

    private static void drawn() {
        Due.of("promise 20");
        LawsLapse x = new LawsLapse();
        for (int law = 0; law < 8; law++) x.set(0, law, 1);
        for (int i = 0; i < 4; i++) x.person(CITIZEN, 0);
        for (int one = 0; one < 8; one++) {
            for (int deed = 0; deed < 10; deed++) {
                int seed = seedOf(one, deed);
                Due.is(one < 4 ? 1 : 0, x.drawn(seed, 1), "drawn(" + seed + ", 1): " + one + " does " + deed);
            }
        }
        Due.is(8, x.drawn(5, 0), "drawn(5, 0)");
        int seed = seedOf(2, 7);
        x.set(3, 7, 1 + 2 + 4);
        Due.is(3, x.drawn(seed, 1), "what the DEED breaks");
        x.set(0, 1, 0);
        Due.is(2, x.drawn(seed, 1), "a LAPSED one stays so");
        x.does(0, 5);
        Due.is(3, x.drawn(seed, 1), "with what is BROKEN");
        x.set(6, 2, 1);
        Due.is(1, x.drawn(seed, 1), "one who SITS doesn't");
        Due.is(32, x.told(0, 11), "BROKEN, unchanged");
        for (int n : new int[] {-1, 21, LEAST, MOST}) Due.is(-2, x.drawn(0, n), "drawn(0, " + n + ")");

        LawsLapse y = new LawsLapse();
        for (int i = 0; i < 4; i++) y.person(POLICEMAN, 0);
        y.set(1, 0, 9);
        for (int s : new int[] {0, 1, -1, 12345, LEAST, MOST, 987654321}) {
            for (int n = 0; n <= 20; n++) Due.is(plainlyDrawn(s, n, 2), y.drawn(s, n), "drawn(" + s + ", " + n + ")");
        }
    }

    /** As drawn() where four POLICEMEN dare all and never SIT, TERM is 9, all LAWS have as many LEFT, and DEEDS break but one. */
    private static int plainlyDrawn(int seed, int n, int years) {
        int[] left = new int[8];
        Arrays.fill(left, years);
        int last = seed;
        for (int i = 0; i < n; i++) {
            int z = last * 1103515245 + 12345;
            last = z * 1103515245 + 12345;
            int law = (z >>> 9) % 8 < 4 ? (last >>> 9) % 10 % 8 : -1;
            for (int j = 0; j < 8; j++) {
                if (left[j] > 0) left[j] = j == law ? 9 : left[j] - 1;
            }
        }
        int alive = 0;
        for (int still : left) alive += still > 0 ? 1 : 0;
        return alive;
    }

    private static void chance() {
        Due.of("promise 21");
        for (int seed : new int[] {0, 77, MOST - 5, LEAST, -10, 4711, 65536}) {
            LawsLapse x = new LawsLapse();
            for (int i = 0; i < 4; i++) x.person(POLICEMAN, 0);
            x.set(1, 0, 9);
            int years = 5 + Math.floorMod(seed, 3);
            for (int law = 0; law < 8; law++) x.set(0, law, years);
            for (int m = 1; m <= 20; m++) {
                for (int k = 0; k <= 8; k++) {
                    int above = 0;
                    for (int i = 0; i < m; i++) above += plainlyDrawn(seed + i, 6, years) >= k ? 1 : 0;
                    int by = m;
                    while (above % by != 0 || m % by != 0) by--;
                    String call = "chance(" + seed + ", " + m + ", " + k + ", ";
                    Due.is(above / by, x.chance(seed, m, k, 0), call + "0)");
                    Due.is(m / by, x.chance(seed, m, k, 1), call + "1)");
                }
            }
        }
        LawsLapse x = new LawsLapse();
        Due.is(1, x.chance(3, 20, 0, 0), "all of them");
        Due.is(1, x.chance(3, 20, 0, 1), "all of them");
        int[][] wrong = {{0, 0, 0}, {21, 0, 0}, {1, -1, 0}, {1, 9, 0}, {1, 0, -1}, {1, 0, 2}, {LEAST, 0, 0}, {MOST, 0, 0},
            {1, LEAST, 0}, {1, MOST, 0}, {1, 0, LEAST}, {1, 0, MOST}};
        for (int[] a : wrong) Due.is(LawsLapse.NO, x.chance(0, a[0], a[1], a[2]), "chance(0, " + a[0] + ", " + a[1] + ", " + a[2] + ")");
    }

    private static void imageAndBack() {
        Due.of("promises 22, 23");
        LawsLapse x = new LawsLapse();
        Due.is(-3, x.back(), "back() without an IMAGE");
        Due.is(0, x.image(), "image() of nobody");
        x.person(CITIZEN, 3);
        x.person(THIEF, 4);
        Due.rule(x, "dares 1; harms 8; sits 2;");
        x.does(0, 3);
        Due.is(2, x.image(), "image()");
        int[][] was = allOf(x);
        x.person(CLERK, 5);
        x.force(0);
        x.does(1, 4);
        x.year();
        x.year();
        x.set(1, 0, 5);
        x.set(2, 0, 50);
        x.set(6, 0, 77);
        for (int i = 0; i < 8; i++) x.set(0, i, 9 - i);
        for (int i = 0; i < 10; i++) {
            x.set(3, i, 20 + i);
            x.set(4, i, 30 + i);
        }
        x.set(5, 0, 9);
        x.set(5, 1, 8);
        x.set(7, 0, 50);
        x.feed('x');
        x.sheet(2, 1, 3);
        x.cell(2, 0, 8);
        x.does(2, 1);
        for (int times = 0; times < 3; times++) {
            Due.is(2, x.back(), "back()");
            same(was, allOf(x));
            Due.is(2, x.count(0), "PEOPLE");
            Due.is(-1000, x.told(2, 5), "one who came since");
            x.year();
            x.person(SPEAKER, 1);
            x.set(3, 3, 0);
        }
        Due.is(2, x.count(3), "TEXTS stay");
        Due.is(1, x.count(4), "THE TAPE stays");
        Due.is(1, x.cell(2, 2, 8), "SHEETS stay");
        Due.is(3, x.image(), "another IMAGE");
        Due.is(3, x.person(CITIZEN, 0), "one more");
        Due.is(3, x.back(), "back() to that one");
        Due.is(3, x.told(2, 8), "KIND of the third");
        Due.is(1, x.count(2), "YEAR");
    }

    private static int[][] allOf(LawsLapse x) {
        int[][] all = new int[14][10];
        for (int what = 0; what < 13; what++) {
            for (int of = 0; of < 10; of++) {
                if (what < 5 || what > 9 || of < 2) all[what][of] = x.told(of, what);
            }
        }
        all[13][0] = x.count(5);
        return all;
    }

    private static void same(int[][] want, int[][] got) {
        for (int what = 0; what < want.length; what++) {
            for (int of = 0; of < 10; of++) Due.is(want[what][of], got[what][of], "told(" + of + ", " + what + ") behind back()");
        }
    }

    private static void count() {
        Due.of("promise 24");
        LawsLapse x = new LawsLapse();
        x.person(CITIZEN, 0);
        x.set(0, 1, 0);
        x.set(2, 0, 123);
        Due.rule(x, "dares 1; harms 1; sits 1;");
        Due.text(x, "dares 1; harms 1; sits 1;");
        for (int i = 0; i < 7; i++) x.feed(1);
        int[] counts = {1, 7, 123, 3, 7, 1};
        for (int what = 0; what < 6; what++) Due.is(counts[what], x.count(what), "count(" + what + ")");
        for (int what : new int[] {-1, 6, LEAST, MOST}) Due.is(-2, x.count(what), "count(" + what + ")");
    }
}
