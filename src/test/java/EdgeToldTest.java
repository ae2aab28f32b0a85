import java.io.IOException;

/** Each edge that section 2 of the Terms names of what was told and drawn, and each of promises 18 to 24. */
public final class EdgeToldTest {
    private static final int CITIZEN = Given.CITIZEN, POLICEMAN = Given.POLICEMAN, CLERK = Given.CLERK;
    private static final int SPEAKER = Given.SPEAKER, ANTIQUARY = Given.ANTIQUARY, THIEF = Given.THIEF;
    private static final int LEAST = Given.LEAST, MOST = Given.MOST;

    public static void main(String[] args) throws IOException {
        Edges.run(EdgeToldTest.class);
    }

    private static void tells(LawsLapse x, int sheet, int one, int what, int due) {
        Due.is(due, x.tells(sheet, one, what), "tells(" + sheet + ", " + one + ", " + what + ")");
    }

    // ---- the Terms: told

    @Says(of = "Terms 2", text = "TOLD: a SHEET tells what one COSTS by DEEDS 0, 1, .. (10 at most; NONE: one doesn't DARE it): the first that is otherwise; NONE;")
    static void theFirstThatIsOtherwise() {
        LawsLapse x = Given.people(CLERK, 3);
        x.set(4, 4, 20);
        x.set(4, 9, 3);
        Given.row(x, 0, 1, 7, 7, 7, 7, -1, 7, 7, 7, 7, 0);
        tells(x, 0, 0, 0, -1);
        int[] as = {7, 7, 7, 7, -1, 7, 7, 7, 7, 0};
        for (int deed = 9; deed >= 0; deed--) {
            for (int wrong : new int[] {as[deed] - 1, as[deed] + 1}) {
                x.cell(0, deed, wrong);
                tells(x, 0, 0, 0, deed);
            }
        }
        Given.row(x, 0, 1, 7, 7, 7, 7, 17);
        tells(x, 0, 0, 0, 4);
        Given.row(x, 0, 1, -1);
        tells(x, 0, 0, 0, 0);
        for (int sort = 0; sort < 3; sort++) {
            Given.row(x, 1, sort);
            tells(x, 1, 0, 0, -1);
            tells(x, 1, 0, 1, 63);
            tells(x, 1, 0, 2, 1023);
            tells(x, 1, 0, 3, 100);
            tells(x, 1, 0, 4, 0);
            tells(x, 1, 0, 5, 100);
            tells(x, 1, 0, 6, 0);
            tells(x, 1, 0, 7, 1);
            tells(x, 1, 0, 8, 1);
        }
        x.set(6, 0, 99);
        Given.row(x, 0, 2, 7, 7, 7, 7, -1);
        tells(x, 0, 0, 0, -1);
    }

    @Says(of = "Terms 2", text = "KINDS (bits 0 .. 5), NUMBERS (bits 0 .. 9)")
    static void kindsAndNumbers() {
        LawsLapse x = Given.people(CITIZEN, 9);
        int[] costs = {10, 5, 1, 10, 2, 20};
        int[] kinds = {1 + 8, 2, 4, 1 + 8, 16, 32};
        for (int kind = 0; kind < 6; kind++) {
            Given.row(x, 0, 2, costs[kind]);
            tells(x, 0, 0, 1, kinds[kind]);
        }
        Given.row(x, 0, 2, 11);
        tells(x, 0, 0, 1, 0);
        Given.row(x, 0, 2, 10);
        tells(x, 0, 0, 2, 1023);
        LawsLapse y = Given.people(CLERK, 4);
        for (int number = 0; number < 10; number++) {
            Given.row(y, 0, 2, 10 - number);
            tells(y, 0, 0, 2, 1 << number);
        }
        Given.row(y, 0, 2, 11);
        tells(y, 0, 0, 2, 0);
        Given.row(y, 0, 2, 0);
        tells(y, 0, 0, 2, 0);
        Due.is(2, y.told(0, 8), "KIND, unchanged");
        Due.is(4, y.told(0, 5), "NUMBER, unchanged");
        LawsLapse z = Given.ruled("dares 0;harms 1;sits 1;", POLICEMAN, 4);
        Given.row(z, 0, 2, -1, -1, -1, -1, -1, -1, -1, 0);
        tells(z, 0, 0, 2, 1 << 7);
        Given.row(z, 0, 2, -1, -1, -1, -1, -1, -1, -1, -1);
        tells(z, 0, 0, 2, 1 << 8 | 1 << 9);
        tells(z, 0, 0, 1, 1 + 4 + 8 + 16 + 32);
    }

    @Says(of = "Terms 2", text = "YEARS (of 0 .. 99: how many, the least)")
    static void yearsTo99() {
        LawsLapse x = Given.ruled("dares 1;harms year;sits 1;", CITIZEN, 0);
        x.set(2, 0, 500);
        int[] told = {0, 1, 98, 99, 100, 500, 998};
        int[] many = {1, 1, 1, 1, 0, 0, 0};
        for (int i = 0; i < told.length; i++) {
            Given.row(x, 0, 2, told[i]);
            tells(x, 0, 0, 3, many[i]);
            tells(x, 0, 0, 4, many[i] == 1 ? told[i] : -1);
        }
        Due.is(500, x.told(0, 2), "YEAR, unchanged");
        LawsLapse y = Given.ruled("dares 0;harms 7;sits 1;", SPEAKER, 0);
        Given.row(y, 0, 2, 8);
        tells(y, 0, 0, 3, 50);
        tells(y, 0, 0, 4, 1);
        Given.row(y, 0, 2, -1);
        tells(y, 0, 0, 3, 50);
        tells(y, 0, 0, 4, 0);
    }

    @Says(of = "Terms 2", text = "SERVED (of 0 .. 99: how many, the least)")
    static void servedTo99() {
        LawsLapse x = Given.ruled("dares 1;harms served+1;sits 1;", CITIZEN, 0, CITIZEN, 0);
        x.set(7, 0, 50);
        int[] told = {0, 1, 2, 51, 100, 101};
        int[] least = {-1, 0, 1, 50, 99, -1};
        for (int i = 0; i < told.length; i++) {
            Given.row(x, 0, 2, told[i]);
            for (int one = 0; one < 2; one++) {
                tells(x, 0, one, 5, least[i] < 0 ? 0 : 1);
                tells(x, 0, one, 6, least[i]);
            }
        }
        Due.is(50, x.told(0, 7), "SERVED, unchanged");
        Due.is(0, x.told(1, 7), "SERVED of another, unchanged");
        LawsLapse y = Given.ruled("dares 49<served;harms 7;sits 1;", CITIZEN, 0);
        Given.row(y, 0, 2, 7, 7);
        tells(y, 0, 0, 5, 50);
        tells(y, 0, 0, 6, 50);
        Given.row(y, 0, 2, -1, -1);
        tells(y, 0, 0, 5, 50);
        tells(y, 0, 0, 6, 0);
        Given.row(y, 0, 2, -1, 7);
        tells(y, 0, 0, 5, 0);
        tells(y, 0, 0, 6, -1);
    }

    @Says(of = "Terms 2", text = "TEXTS (bits), were they THE RULE, by which all would be so; PEOPLE (bits) of whom it is so.")
    static void textsAndPeople() {
        LawsLapse x = Given.people(CITIZEN, 0, CLERK, 0, POLICEMAN, 0, CITIZEN, 9);
        Given.row(x, 3, 0, 10, 10);
        tells(x, 3, 0, 7, 1);
        tells(x, 3, 2, 7, 0);
        for (int one = 0; one < 4; one++) tells(x, 3, one, 8, 1 + 2 + 8);
        String[] texts = {"dares 1;harms 20;sits 1;", "dares 1;harms 10;sits 9;", "dares 0;harms 10;sits 1;", "dares number;harms 10;sits 1;",
            "dares 1;harms 21;sits 1;"};
        for (String text : texts) Due.text(x, text);
        tells(x, 3, 0, 7, 1 + 4);
        tells(x, 3, 1, 7, 1 + 4);
        tells(x, 3, 2, 7, 2 + 32);
        tells(x, 3, 3, 7, 1 + 4 + 16);
        x.force(3);
        tells(x, 3, 0, 7, 1 + 4);
        tells(x, 3, 0, 8, 0);
        x.force(5);
        tells(x, 3, 0, 8, 4);
        x.force(4);
        tells(x, 3, 0, 8, 8);
        Due.is(4, x.count(5), "THE RULE, unchanged");
    }

    // ---- the Terms: drawn

    private static int next(int z) {
        return z * 1103515245 + 12345;
    }

    /** Four POLICEMEN, who DARE all and never SIT; all LAWS have so many years LEFT, and TERM is 9. */
    private static LawsLapse drawers(int left) {
        LawsLapse x = Given.people(POLICEMAN, 0, POLICEMAN, 0, POLICEMAN, 0, POLICEMAN, 0);
        x.set(1, 0, 9);
        return Given.left(x, left, left, left, left, left, left, left, left);
    }

    /** How many of those LAWS are ALIVE behind n drawn YEARS. */
    private static int plainlyDrawn(int seed, int n, int left) {
        int[] good = new int[8];
        for (int law = 0; law < 8; law++) good[law] = left;
        int y = seed;
        for (int i = 0; i < n; i++) {
            int z = next(y);
            y = next(z);
            int broken = (z >>> 9) % 8 < 4 ? (y >>> 9) % 10 % 8 : -1;
            for (int law = 0; law < 8; law++) {
                if (good[law] > 0) good[law] = law == broken ? 9 : good[law] - 1;
            }
        }
        int alive = 0;
        for (int years : good) alive += years > 0 ? 1 : 0;
        return alive;
    }

    @Says(of = "Terms 2", text = "DRAWN by a SEED: n YEARS (0 .. 20), in thought, in each of which, ahead of its end, who is numbered (z >>> 9) % 8 does DEED (y >>> 9) % 10")
    static void drawnOfZAndY() {
        LawsLapse x = drawers(3);
        int[] was = Given.all(x);
        for (int n = 0; n <= 20; n++) {
            for (int seed : new int[] {0, 1, -1, 4711, 1234567890}) {
                Due.is(plainlyDrawn(seed, n, 3), x.drawn(seed, n), "drawn(" + seed + ", " + n + ")");
            }
        }
        Given.unchanged(was, x, "drawn()");
        Due.is(8, x.drawn(7, 0), "drawn(7, 0)");
        Due.is(-2, x.drawn(7, 21), "drawn(7, 21)");
        Due.is(-2, x.drawn(7, -1), "drawn(7, -1)");
    }

    @Says(of = "Terms 2", text = "(z, then y, each being the last one * 1103515245 + 12345, an int; SEED at first)")
    static void drawnOfSeedsThatWrap() {
        LawsLapse x = drawers(1);
        int fromBelow = 0;
        for (int seed : new int[] {LEAST, LEAST + 1, MOST, MOST - 1, -12345, 65536, -65536, 1 << 30, 3, 99}) {
            int z = next(seed);
            if (z < 0 || next(z) < 0) fromBelow++;
            for (int n : new int[] {1, 6, 20}) Due.is(plainlyDrawn(seed, n, 1), x.drawn(seed, n), "drawn(" + seed + ", " + n + ")");
        }
        Due.is(1, fromBelow > 2 ? 1 : 0, "z or y below 0, drawn more than twice,");
    }

    @Says(of = "Terms 2", text = "if there is one who CAN: how many LAWS are ALIVE then.")
    static void drawnIfThereIsOne() {
        LawsLapse x = Given.left(new LawsLapse(), 1, 1, 1, 1, 1, 1, 1, 1);
        int[] seeds = new int[8];
        for (int seed = 1000; seed > 0; seed--) {
            if ((next(next(seed)) >>> 9) % 10 == 4) seeds[(next(seed) >>> 9) % 8] = seed;
        }
        for (int who = 0; who < 8; who++) Due.is(0, x.drawn(seeds[who], 1), "drawn(" + seeds[who] + ", 1): nobody");
        for (int many = 1; many <= 4; many++) {
            x.person(CITIZEN, 0);
            for (int who = 0; who < 8; who++) {
                Due.is(who < many ? 1 : 0, x.drawn(seeds[who], 1), "drawn(" + seeds[who] + ", 1): " + who + " of " + many + " does DEED 4");
            }
        }
        x.set(6, 2, 1);
        Due.is(0, x.drawn(seeds[2], 1), "drawn(" + seeds[2] + ", 1): one SITS");
        x.set(6, 2, 0);
        x.set(3, 4, 255);
        Due.is(8, x.drawn(seeds[2], 1), "drawn(" + seeds[2] + ", 1): DEED 4 breaks all");
        Due.rule(x, "dares harm<10;harms 1;sits 1;");
        Due.is(0, x.drawn(seeds[2], 1), "drawn(" + seeds[2] + ", 1): one doesn't DARE it");
        x.set(4, 4, 9);
        Due.is(8, x.drawn(seeds[2], 1), "drawn(" + seeds[2] + ", 1): one DARES it");
        Given.left(x, 0, 0, 0, 0, 0, 0, 0, 0);
        Due.is(0, x.drawn(seeds[2], 1), "drawn(" + seeds[2] + ", 1): none is ALIVE");
    }

    private static int divisor(int a, int b) {
        return b == 0 ? a : divisor(b, a % b);
    }

    private static void chances(LawsLapse x, int seed, int m, int k, int above) {
        int by = divisor(above, m);
        Due.is(above / by, x.chance(seed, m, k, 0), "chance(" + seed + ", " + m + ", " + k + ", 0)");
        Due.is(m / by, x.chance(seed, m, k, 1), "chance(" + seed + ", " + m + ", " + k + ", 1)");
    }

    @Says(of = "Terms 2", text = "IN m seeds (1 .. 20), SEED and each 1 more (an int), 6 YEARS")
    static void chanceInSeedsThatWrap() {
        for (int seed : new int[] {0, MOST - 9, MOST, -10, LEAST}) {
            LawsLapse x = drawers(6);
            for (int m = 1; m <= 20; m++) {
                for (int k = 1; k <= 8; k += 2) {
                    int above = 0;
                    for (int i = 0; i < m; i++) above += plainlyDrawn(seed + i, 6, 6) >= k ? 1 : 0;
                    chances(x, seed, m, k, above);
                }
            }
        }
    }

    @Says(of = "Terms 2", text = "of these those by which that is k (0 .. 8) or more.")
    static void chanceOfKOrMore() {
        LawsLapse x = Given.left(new LawsLapse(), 0, 6, 7, 9, 6, 1, 9, 9);
        int[] above = {20, 20, 20, 20, 20, 0, 0, 0, 0};
        for (int k = 0; k <= 8; k++) chances(x, 5, 20, k, k <= 4 ? above[k] : 0);
        LawsLapse all = Given.left(new LawsLapse(), 9, 9, 9, 9, 9, 9, 9, 9);
        for (int k = 0; k <= 8; k++) chances(all, 5, 20, k, 20);
        LawsLapse none = new LawsLapse();
        for (int k = 0; k <= 8; k++) chances(none, 5, 20, k, k == 0 ? 20 : 0);
        for (int k : new int[] {-1, 9}) Due.is(LawsLapse.NO, all.chance(5, 20, k, 0), "chance(5, 20, " + k + ", 0)");
    }

    // ---- promises 18 to 21

    @Says(of = "Promise 18", text = "TOLD of one: the first that is otherwise (what 0; NONE)")
    static void tellsNothingOtherwise() {
        LawsLapse x = Given.row(Given.people(CITIZEN, 0), 0, 2, 10, 10, 10, 10, 10, 10, 10, 10, 10, 10);
        tells(x, 0, 0, 0, -1);
        x.cell(0, 9, 9);
        tells(x, 0, 0, 0, 9);
        x.cell(0, 0, 9);
        tells(x, 0, 0, 0, 0);
    }

    @Says(of = "Promise 18", text = "YEARS: how many (3), the least (4; NONE)")
    static void tellsOfNoYear() {
        LawsLapse x = Given.row(Given.people(CITIZEN, 0), 0, 2, 11);
        tells(x, 0, 0, 3, 0);
        tells(x, 0, 0, 4, -1);
        x.cell(0, 0, 10);
        tells(x, 0, 0, 3, 100);
        tells(x, 0, 0, 4, 0);
    }

    @Says(of = "Promise 18", text = "SERVED: how many (5), the least (6; NONE)")
    static void tellsOfNoneServed() {
        LawsLapse x = Given.row(Given.people(CITIZEN, 0), 0, 2, 11);
        tells(x, 0, 0, 5, 0);
        tells(x, 0, 0, 6, -1);
        x.cell(0, 0, 10);
        tells(x, 0, 0, 5, 100);
        tells(x, 0, 0, 6, 0);
    }

    @Says(of = "Promise 18", text = "PEOPLE (8). BAD: SHEET, none such, what;")
    static void tellsRefuses() {
        LawsLapse nobody = Given.row(new LawsLapse(), 0, 2, 10);
        tells(nobody, 0, 0, 8, -2);
        LawsLapse x = Given.row(Given.people(CITIZEN, 0, THIEF, 0), 0, 2, 10);
        int[] was = Given.all(x);
        for (int none : new int[] {-1, 4, LEAST, MOST}) tells(x, none, 0, 0, -2);
        for (int none : new int[] {-1, 2, 4, LEAST, MOST}) {
            for (int what = 0; what < 9; what++) tells(x, 0, none, what, -2);
        }
        for (int none : new int[] {-1, 9, LEAST, MOST}) tells(x, 0, 0, none, -2);
        tells(x, 1, 2, 0, -2);
        tells(x, 1, 0, 9, -2);
        Given.unchanged(was, x, "refusals");
        tells(x, 0, 1, 8, 1);
    }

    @Says(of = "Promise 18", text = "-11;")
    static void tellsOfAMissingSheet() {
        LawsLapse x = Given.people(CITIZEN, 0);
        for (int sheet = 0; sheet < 4; sheet++) {
            for (int what = 0; what < 9; what++) tells(x, sheet, 0, what, -11);
        }
        Given.row(x, 3, 0, 10);
        tells(x, 3, 0, 0, -1);
        x.sheet(3, -1, 0);
        tells(x, 3, 0, 0, -11);
    }

    @Says(of = "Promise 18", text = "BAD: it tells more than 10.")
    static void tellsMoreThan10() {
        LawsLapse x = Given.people(CITIZEN, 0);
        for (int sort = 0; sort < 3; sort++) {
            Given.row(x, 0, sort, 10, 10, 10, 10, 10, 10, 10, 10, 10, 10);
            tells(x, 0, 0, 0, -1);
            Given.row(x, 0, sort, 10, 10, 10, 10, 10, 10, 10, 10, 10, 10, 10);
            for (int what = 0; what < 9; what++) tells(x, 0, 0, what, -2);
            x.sheet(0, sort, 40);
            tells(x, 0, 0, 0, -2);
            tells(x, 0, 0, 9, -2);
        }
    }

    @Says(of = "Promise 19", text = "A SHEET truly becomes what one COSTS by DEEDS 0 .. 9 (shorts; NONE: one doesn't DARE it): how many one DARES.")
    static void filmOfEnds() {
        LawsLapse x = Given.people(CLERK, 9);
        x.set(4, 0, 20);
        x.set(4, 1, 19);
        x.set(4, 2, 9);
        x.set(4, 9, 0);
        Due.is(9, x.film(0, 0), "film(0, 0) where the SHEET was missing");
        tells(x, 0, 0, 0, -1);
        Given.row(x, 1, 1, -1, 10, 0, 1, 1, 1, 1, 1, 1, 0);
        Due.is(10, x.copy(0, 0, 1, 0, 10), "copy(0, 0, 1, 0, 10): it is of 10 shorts");
        tells(x, 1, 0, 0, -1);
        Due.is(-12, x.cell(0, 10, 0), "cell(0, 10, 0): it is of no more");
        x.sheet(0, 2, 40);
        Due.is(9, x.film(0, 0), "film(0, 0) where the SHEET was of 40 ints");
        Due.is(-12, x.copy(0, 0, 1, 0, 11), "copy(0, 0, 1, 0, 11)");
        tells(x, 0, 0, 0, -1);
        Due.rule(x, "dares 0;harms 1;sits 1;");
        Due.is(0, x.film(0, 0), "film(0, 0): one DARES none");
        Given.row(x, 1, 1, -1, -1, -1, -1, -1, -1, -1, -1, -1, -1);
        tells(x, 1, 0, 0, -1);
        tells(x, 0, 0, 0, -1);
        Due.rule(x, "dares 1;harms 9999;sits 1;");
        x.person(THIEF, 0);
        x.set(6, 1, 99);
        Due.is(10, x.film(3, 1), "film(3, 1): one DARES all, though one SITS");
        Given.row(x, 1, 2, 999, 999, 999, 999, 999, 999, 999, 999, 999, 999);
        tells(x, 1, 1, 0, -1);
        tells(x, 3, 1, 0, -1);
    }

    @Says(of = "Promise 19", text = "how many one DARES. BAD.")
    static void filmRefuses() {
        Due.is(-2, new LawsLapse().film(0, 0), "film(0, 0): nobody");
        LawsLapse x = Given.row(Given.people(CITIZEN, 0), 1, 2, 10, 10);
        int[][] wrong = {{-1, 0}, {4, 0}, {LEAST, 0}, {MOST, 0}, {1, -1}, {1, 1}, {1, LEAST}, {1, MOST}, {0, 1}, {4, 1}};
        for (int[] a : wrong) Due.is(-2, x.film(a[0], a[1]), "film(" + a[0] + ", " + a[1] + ")");
        Due.is(-11, x.cell(0, 0, 0), "SHEET 0, missing as it was");
        Due.is(-12, x.cell(1, 2, 0), "SHEET 1, of two items as it was");
        tells(x, 1, 0, 0, -1);
        Due.is(10, x.film(3, 0), "film(3, 0): the last SHEET");
    }

    @Says(of = "Promise 20", text = "BAD: n.")
    static void drawnRefuses() {
        LawsLapse x = new LawsLapse();
        for (int seed : new int[] {0, LEAST, MOST}) {
            for (int n : new int[] {-1, 21, LEAST, MOST}) Due.is(-2, x.drawn(seed, n), "drawn(" + seed + ", " + n + ")");
            Due.is(8, x.drawn(seed, 0), "drawn(" + seed + ", 0)");
            Due.is(8, x.drawn(seed, 1), "drawn(" + seed + ", 1)");
            Due.is(0, x.drawn(seed, 2), "drawn(" + seed + ", 2)");
            Due.is(0, x.drawn(seed, 20), "drawn(" + seed + ", 20)");
        }
    }

    @Says(of = "Promise 21", text = "IN m seeds: part 0 above, 1 below the line, in lowest terms.")
    static void chanceInLowestTerms() {
        for (int from = 0; from < 120; from += 20) {
            LawsLapse x = drawers(6);
            for (int k = 0; k <= 8; k++) {
                int above = 0;
                for (int m = 1; m <= 20; m++) {
                    above += plainlyDrawn(from + m - 1, 6, 6) >= k ? 1 : 0;
                    chances(x, from, m, k, above);
                }
            }
        }
    }

    @Says(of = "Promise 21", text = "NO: m, k, part.")
    static void chanceRefuses() {
        LawsLapse x = new LawsLapse();
        int[][] wrong = {{0, 0, 0}, {21, 0, 0}, {-1, 0, 0}, {LEAST, 0, 0}, {MOST, 0, 0}, {1, -1, 0}, {1, 9, 0}, {1, LEAST, 0}, {1, MOST, 0},
            {1, 0, -1}, {1, 0, 2}, {1, 0, LEAST}, {1, 0, MOST}, {0, 0, 1}, {21, 9, 2}};
        for (int[] a : wrong) Due.is(LawsLapse.NO, x.chance(3, a[0], a[1], a[2]), "chance(3, " + a[0] + ", " + a[1] + ", " + a[2] + ")");
        for (int m : new int[] {1, 20}) {
            chances(x, 3, m, 0, m);
            chances(x, 3, m, 8, 0);
        }
    }

    // ---- promises 22 to 24

    @Says(of = "Terms 2", text = "AN IMAGE keeps LEFT, TERM, YEAR, BROKEN, COST, DEEDS, NUMBERS, for how long all SIT, SERVED, THE RULE (PEOPLE that came since go).")
    static void imageKeepsAll() {
        LawsLapse x = Given.ruled("dares 1;harms 8;sits 2;", CITIZEN, 3, THIEF, 4);
        x.does(0, 3);
        x.set(0, 7, 0);
        x.set(2, 0, 999);
        Due.is(2, x.image(), "image()");
        int[] was = Given.all(x);
        x.person(CLERK, 5);
        x.person(CLERK, 6);
        x.force(0);
        x.does(2, 4);
        x.set(2, 0, 5);
        x.year();
        x.set(1, 0, 9);
        for (int law = 0; law < 8; law++) x.set(0, law, law + 1);
        for (int deed = 0; deed < 10; deed++) {
            x.set(3, deed, 100 + deed);
            x.set(4, deed, 50 + deed);
        }
        for (int what = 5; what < 8; what++) {
            for (int one = 0; one < 4; one++) x.set(what, one, 9);
        }
        Due.is(2, x.back(), "back()");
        Given.unchanged(was, x, "back()");
        for (int what = 5; what < 10; what++) {
            Due.is(-1000, x.told(2, what), "told(2, " + what + ") of one that came since");
            Due.is(-1000, x.told(3, what), "told(3, " + what + ") of one that came since");
        }
        Due.is(2, x.person(SPEAKER, 7), "person() where others went");
        Due.is(0, x.told(2, 6), "for how long that one SITS");
        Due.is(0, x.told(2, 7), "SERVED of that one");
        Due.is(7, x.told(2, 5), "NUMBER of that one");
    }

    @Says(of = "Promise 22", text = "AN IMAGE is kept: how many PEOPLE.")
    static void imageOfSoMany() {
        LawsLapse x = new LawsLapse();
        for (int many = 0; many <= 4; many++) {
            Due.is(many, x.image(), "image() of " + many);
            Due.is(many, x.back(), "back() to " + many);
            x.person(CITIZEN, 0);
        }
        Due.is(4, x.count(0), "PEOPLE");
        x.year();
        Due.is(4, x.image(), "image() in the place of the last");
        x.year();
        x.back();
        Due.is(1, x.count(2), "YEAR, as in the newest");
        x.year();
        x.back();
        Due.is(1, x.count(2), "YEAR, as in the newest, twice");
    }

    @Says(of = "Promise 23", text = "All that it keeps is as in THE IMAGE: how many PEOPLE.")
    static void backLeavesTheRest() {
        LawsLapse x = Given.row(Given.people(CITIZEN, 0), 0, 2, 10);
        x.image();
        Due.is(1, Due.text(x, "dares 1;harms 3;sits 1;"), "text()");
        x.force(1);
        x.feed('a');
        x.cell(0, 0, 11);
        x.sheet(1, 0, 5);
        Due.is(1, x.back(), "back()");
        Due.is(0, x.count(5), "THE RULE");
        Due.is(2, x.count(3), "TEXTS, which stay");
        Due.is(1, x.count(4), "bytes of THE TAPE, which stay");
        tells(x, 0, 0, 0, 0);
        Due.is(1, x.cell(1, 4, 1), "cell(1, 4, 1) of a SHEET, which stays");
    }

    @Says(of = "Promise 23", text = "STATE: there is none.")
    static void backRefuses() {
        LawsLapse x = Given.people(CITIZEN, 0, THIEF, 0);
        x.does(1, 0);
        int[] was = Given.all(x);
        Due.is(-3, x.back(), "back() without an IMAGE");
        Due.is(-3, x.back(), "back() without an IMAGE, again");
        Given.unchanged(was, x, "refusals");
        x.image();
        Due.is(2, x.back(), "back()");
        Due.is(2, x.back(), "back(): THE IMAGE stays");
        Due.is(-3, new LawsLapse().back(), "back() of another object");
    }

    @Says(of = "Promise 24", text = "How many: 0 PEOPLE, 1 LAWS that are ALIVE, 2 YEAR, 3 TEXTS, 4 bytes of THE TAPE, 5 THE RULE. BAD.")
    static void countAtItsEnds() {
        LawsLapse x = new LawsLapse();
        int[] first = {0, 8, 0, 1, 0, 0};
        for (int what = 0; what < 6; what++) Due.is(first[what], x.count(what), "count(" + what + ") at first");
        for (int what : new int[] {-1, 6, LEAST, MOST}) Due.is(-2, x.count(what), "count(" + what + ")");
        for (int one = 0; one < 4; one++) x.person(ANTIQUARY, one);
        for (int law = 0; law < 8; law++) x.set(0, law, 0);
        x.set(2, 0, 999);
        for (int text = 1; text < 6; text++) Due.text(x, "dares 1;harms 1;sits 1;");
        x.force(5);
        for (int i = 0; i < 160; i++) x.feed('x');
        int[] last = {4, 0, 999, 6, 160, 5};
        for (int what = 0; what < 6; what++) Due.is(last[what], x.count(what), "count(" + what + ") at its end");
    }
}
