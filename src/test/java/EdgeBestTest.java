import java.io.IOException;

/** Each edge that section 2 of the Terms names of what would be best, and each of promises 13 to 17. */
public final class EdgeBestTest {
    private static final int CITIZEN = Given.CITIZEN, POLICEMAN = Given.POLICEMAN, CLERK = Given.CLERK, THIEF = Given.THIEF;
    private static final int LEAST = Given.LEAST, MOST = Given.MOST;

    public static void main(String[] args) throws IOException {
        Edges.run(EdgeBestTest.class);
    }

    private static LawsLapse deeds(int... breaksAndHarm) {
        return Given.deeds(new LawsLapse(), breaksAndHarm);
    }

    private static void covers(LawsLapse x, int set, int deeds, int harm) {
        Due.is(deeds, x.cover(set, 0), "cover(" + set + ", 0)");
        Due.is(harm, x.cover(set, 1), "cover(" + set + ", 1)");
    }

    private static void fewest(LawsLapse x, int set, int deeds, int many) {
        Due.is(deeds, x.cover(set, 2), "cover(" + set + ", 2)");
        Due.is(many, x.cover(set, 3), "cover(" + set + ", 3)");
    }

    // ---- the Terms: cover

    @Says(of = "Terms 2", text = "COVER (a set): of all sets of DEEDS that break, together, all of it, whoever does them, that of least HARM, together;")
    static void coverOfLeastHarm() {
        LawsLapse x = deeds(3, 10, 1, 4, 2, 5);
        covers(x, 3, 2 + 4, 9);
        x.set(4, 2, 7);
        covers(x, 3, 1, 10);
        covers(x, 1, 2, 4);
        covers(x, 2, 4, 7);
        Due.is(0, x.count(0), "PEOPLE: nobody need be there");
        x.person(CLERK, 0);
        x.set(4, 0, 99);
        x.set(4, 1, 98);
        x.set(4, 2, 97);
        covers(x, 3, 1, 99);
        x.set(0, 0, 0);
        covers(x, 1, 2, 98);
        x.does(0, 5);
        covers(x, 3, 1, 99);
        LawsLapse y = new LawsLapse();
        for (int deed = 0; deed < 8; deed++) y.set(4, deed, 99);
        y.set(3, 8, 0);
        y.set(3, 9, 0);
        covers(y, 255, 255, 8 * 99);
    }

    @Says(of = "Terms 2", text = "COVER (a set): of all sets of DEEDS that break, together, all of it")
    static void coverOfNothing() {
        LawsLapse x = deeds(0, 0, 0, 0, 255, 0);
        covers(x, 0, 0, 0);
        fewest(x, 0, 0, 0);
        LawsLapse y = deeds();
        covers(y, 0, 0, 0);
        fewest(y, 0, 0, 0);
    }

    @Says(of = "Terms 2", text = "COVER (a set): of all sets of DEEDS that break, together, all of it")
    static void coverByMoreThanIsAsked() {
        LawsLapse x = deeds(1 + 2 + 4, 10, 8 + 16, 7);
        covers(x, 1, 1, 10);
        fewest(x, 2 + 4, 1, 1);
        covers(x, 16, 2, 7);
        covers(x, 2 + 8, 1 + 2, 17);
        fewest(x, 2 + 8, 1 + 2, 2);
    }

    @Says(of = "Terms 2", text = "of like ones that of fewest; of these the least as bits; NONE. FEWEST")
    static void coverOfLikeOnes() {
        covers(deeds(1, 5, 2, 5, 3, 10), 3, 4, 10);
        covers(deeds(1, 0, 2, 0, 3, 0), 3, 4, 0);
        covers(deeds(1, 5, 1, 5), 1, 1, 5);
        covers(deeds(0, 0, 1, 5, 1, 5), 1, 2, 5);
        covers(deeds(2, 7, 1, 5, 1, 5, 2, 7), 3, 1 + 2, 12);
        covers(deeds(1, 6, 2, 4, 1, 5, 2, 5), 3, 2 + 4, 9);
        covers(deeds(1, 5, 2, 5, 1, 4, 2, 6), 3, 2 + 4, 9);
        covers(deeds(1, 5, 2, 5, 4, 5, 3, 10, 6, 10, 5, 10), 7, 4 + 8, 15);
        covers(deeds(1, 99, 1, 99, 1, 99), 1, 1, 99);
        covers(new LawsLapse(), 255, 255, 80);
        covers(new LawsLapse(), 3, 3, 20);
        for (int set = 1; set < 256; set++) covers(deeds(1, 5), set, set == 1 ? 1 : -1, set == 1 ? 5 : -1);
    }

    @Says(of = "Terms 2", text = "FEWEST (a set): that of fewest DEEDS, of like ones of least HARM; of these the least as bits; NONE.")
    static void fewestOfLikeOnes() {
        fewest(deeds(3, 99, 1, 0, 2, 0), 3, 1, 1);
        fewest(deeds(3, 99, 3, 98, 3, 98), 3, 2, 1);
        fewest(deeds(1, 5, 2, 5, 1, 5, 2, 5), 3, 1 + 2, 2);
        fewest(deeds(1, 6, 2, 5, 1, 5, 2, 5), 3, 2 + 4, 2);
        fewest(deeds(1, 99, 2, 99, 4, 99, 7, 99), 7, 8, 1);
        fewest(deeds(15, 99, 240, 99, 1, 0, 2, 0, 4, 0, 8, 0, 240, 0), 255, 1 + 64, 2);
        fewest(new LawsLapse(), 255, 255, 8);
        fewest(deeds(254, 0), 1, -1, -1);
        fewest(deeds(254, 0), 255, -1, -1);
    }

    @Says(of = "Promise 13", text = "COVER (what 0; bits), HARM, together (1), FEWEST (2; bits), how many (3).")
    static void coverTells() {
        LawsLapse x = deeds(3, 99, 4, 98, 1, 3, 2, 4, 4, 5, 248, 99);
        covers(x, 255, 4 + 8 + 16 + 32, 3 + 4 + 5 + 99);
        fewest(x, 255, 1 + 16 + 32, 3);
        covers(x, 7, 4 + 8 + 16, 12);
        fewest(x, 7, 1 + 16, 2);
        LawsLapse last = Given.deeds(new LawsLapse());
        last.set(3, 9, 8);
        covers(last, 8, 512, 50);
        fewest(last, 8, 512, 1);
        LawsLapse y = deeds();
        for (int deed = 0; deed < 10; deed++) y.set(3, deed, deed < 8 ? 1 << deed : 0);
        for (int deed = 0; deed < 10; deed++) y.set(4, deed, 99);
        covers(y, 255, 255, 8 * 99);
        fewest(y, 255, 255, 8);
    }

    @Says(of = "Promise 13", text = "BAD: set, what;")
    static void coverRefuses() {
        LawsLapse x = new LawsLapse();
        int[][] wrong = {{-1, 0}, {256, 0}, {LEAST, 0}, {MOST, 0}, {0, -1}, {0, 4}, {0, LEAST}, {0, MOST}, {256, 3}, {-1, 3}, {255, 4}, {256, 4}};
        for (int[] a : wrong) Due.is(-2, x.cover(a[0], a[1]), "cover(" + a[0] + ", " + a[1] + ")");
        covers(x, 0, 0, 0);
        fewest(x, 255, 255, 8);
    }

    @Says(of = "Promise 13", text = "FEWEST (2; bits), how many (3). BAD: set, what; NONE.")
    static void coverOfNone() {
        LawsLapse x = deeds(1 + 2, 5, 4, 5);
        for (int set : new int[] {8, 128, 9, 255}) {
            covers(x, set, -1, -1);
            fewest(x, set, -1, -1);
        }
        covers(x, 7, 3, 10);
        fewest(x, 7, 3, 2);
        Due.is(-2, x.cover(255, 4), "cover(255, 4): BAD ahead of NONE");
    }

    // ---- the Terms: rota

    private static void rotas(LawsLapse x, int way, int many, int costs) {
        Due.is(way, x.rota(0), "rota(0)");
        Due.is(many, x.rota(1), "rota(1)");
        Due.is(costs, x.rota(2), "rota(2)");
    }

    @Says(of = "Terms 2", text = "ROTA: of all ways in which each of PEOPLE does one DEED one CAN do now, or none (each told as all is now, no DEED by two)")
    static void rotaOfWhatEachCan() {
        LawsLapse x = Given.deeds(Given.people(CLERK, 0, CITIZEN, 0), 1, 20, 2, 10);
        rotas(x, 11 * 2 + 1, 2, 30);
        x.set(6, 1, 1);
        rotas(x, 11 * 2, 1, 10);
        x.set(6, 0, 1);
        rotas(x, 0, 0, 0);
        LawsLapse one = Given.deeds(Given.people(CITIZEN, 0, POLICEMAN, 9), 255, 10);
        rotas(one, 1, 8, 5);
        one.set(3, 0, 1);
        rotas(one, 1, 1, 5);
        // Each is told as all is now, where nobody has SERVED yet.
        LawsLapse y = Given.ruled("dares served=0;harms 10*served+1;sits 0;", CITIZEN, 0, CITIZEN, 0);
        rotas(y, 11 * 1 + 2, 2, 2);
        y.does(0, 4);
        rotas(y, 1, 2, 1);
        rotas(new LawsLapse(), 0, 0, 0);
    }

    @Says(of = "Terms 2", text = "that by which most LAWS that are ALIVE are BROKEN, with those that are;")
    static void rotaOfMostLaws() {
        LawsLapse x = Given.deeds(Given.people(CITIZEN, 0, POLICEMAN, 0), 3, 10, 4, 99, 1, 0);
        rotas(x, 11 * 1 + 2, 3, 10 + 49);
        x.set(0, 2, 0);
        rotas(x, 1, 2, 5);
        x.does(1, 2);
        rotas(x, 1, 2, 5);
        x.does(1, 0);
        rotas(x, 0, 2, 0);
        x.set(0, 0, 0);
        rotas(x, 0, 1, 0);
        for (int law = 0; law < 8; law++) x.set(0, law, 0);
        rotas(x, 0, 0, 0);
    }

    @Says(of = "Terms 2", text = "of like ones that which COSTS least, together;")
    static void rotaOfLeastCost() {
        LawsLapse x = Given.deeds(Given.people(CITIZEN, 0, POLICEMAN, 0), 1, 20, 2, 30);
        rotas(x, 11 * 1 + 2, 2, 20 + 15);
        x.set(4, 1, 10);
        rotas(x, 11 * 2 + 1, 2, 10 + 10);
        LawsLapse y = Given.deeds(Given.people(CITIZEN, 0), 1, 20, 1, 19, 1, 19);
        rotas(y, 2, 1, 19);
        LawsLapse z = Given.ruled("dares 1;harms 999;sits 0;", CITIZEN, 0, CITIZEN, 0, CITIZEN, 0, CITIZEN, 0);
        rotas(z, ((1 * 11 + 2) * 11 + 3) * 11 + 4, 4, 4 * 999);
    }

    @Says(of = "Terms 2", text = "of these the first by the DEED of one numbered 0 (none ahead of any), then of 1, ..;")
    static void rotaOfLikeOnes() {
        LawsLapse x = Given.deeds(Given.people(CITIZEN, 0, CITIZEN, 0), 1, 10, 1, 10);
        rotas(x, 1, 1, 10);
        x.set(3, 1, 2);
        rotas(x, 11 * 1 + 2, 2, 20);
        x.set(3, 2, 1);
        x.set(4, 2, 10);
        rotas(x, 11 * 1 + 2, 2, 20);
        x.set(4, 0, 11);
        rotas(x, 11 * 2 + 3, 2, 20);
        LawsLapse y = Given.deeds(Given.people(CITIZEN, 0, CITIZEN, 0, CITIZEN, 0), 1, 0, 2, 0, 0, 0);
        rotas(y, 0 * 121 + 1 * 11 + 2, 2, 0);
        LawsLapse z = Given.deeds(Given.people(CITIZEN, 0, CITIZEN, 0, CITIZEN, 0), 3, 20, 1, 10, 2, 10);
        rotas(z, 1, 2, 20);
    }

    @Says(of = "Terms 2", text = "as a number: 11 times that of those ahead, and 1 more than the DEED, 0 for none; how many; what it COSTS.")
    static void rotaAsANumber() {
        LawsLapse x = Given.deeds(Given.people(CITIZEN, 0));
        x.set(3, 9, 1);
        rotas(x, 10, 1, 50);
        x.set(3, 0, 1);
        x.set(4, 0, 50);
        rotas(x, 1, 1, 50);
        LawsLapse y = new LawsLapse();
        for (int i = 0; i < 4; i++) y.person(CITIZEN, 0);
        Given.deeds(y);
        for (int deed = 6; deed < 10; deed++) y.set(3, deed, 1 << deed - 6);
        rotas(y, ((7 * 11 + 8) * 11 + 9) * 11 + 10, 4, 200);
        y.set(6, 0, 1);
        y.set(6, 2, 1);
        y.set(3, 6, 0);
        y.set(3, 7, 0);
        rotas(y, 9 * 121 + 10, 2, 100);
        y.set(6, 3, 1);
        y.set(4, 8, 51);
        rotas(y, 10 * 121, 1, 50);
        Due.is(0, new LawsLapse().rota(0), "rota(0): nobody");
    }

    @Says(of = "Promise 14", text = "what it COSTS (2). BAD.")
    static void rotaRefuses() {
        LawsLapse x = Given.people(CITIZEN, 0);
        int[] was = Given.all(x);
        for (int what : new int[] {-1, 3, LEAST, MOST}) Due.is(-2, x.rota(what), "rota(" + what + ")");
        rotas(x, 1, 1, 10);
        Given.unchanged(was, x, "rota()");
    }

    // ---- the Terms: saves, letGo, share

    private static void savesAre(LawsLapse x, int n, int deed, int many) {
        Due.is(deed, x.saves(n, 0), "saves(" + n + ", 0)");
        Due.is(many, x.saves(n, 1), "saves(" + n + ", 1)");
    }

    @Says(of = "Terms 2", text = "SAVES (n 1 .. 10): the DEED such that, were it DONE by nobody, for nothing, now, most LAWS would be ALIVE behind n such YEARS, "
            + "if more than so; of like ones the first; NONE.")
    static void savesMost() {
        LawsLapse x = deeds(1, 5, 6, 5, 6, 5, 7, 5, 15, 5, 0, 0);
        savesAre(x, 1, -1, 8);
        savesAre(x, 2, 4, 4);
        savesAre(x, 3, -1, 0);
        x.set(0, 3, 0);
        savesAre(x, 2, 3, 3);
        x.set(0, 0, 0);
        savesAre(x, 2, 1, 2);
        x.set(1, 0, 9);
        savesAre(x, 9, 1, 2);
        savesAre(x, 10, -1, 0);
        x.set(0, 7, 9);
        savesAre(x, 8, 1, 3);
        savesAre(x, 9, 1, 2);
        Due.is(0, x.told(0, 11), "BROKEN, unchanged");
        Due.is(0, x.told(0, 12), "COST, unchanged");
        LawsLapse last = deeds();
        last.set(3, 9, 8);
        savesAre(last, 2, 9, 1);
        LawsLapse y = Given.left(Given.people(CITIZEN, 0), 1, 1, 0, 0, 0, 0, 0, 0);
        savesAre(y, 1, 0, 2);
        y.does(0, 1);
        savesAre(y, 1, 0, 2);
        y.set(6, 0, 0);
        savesAre(y, 1, -1, 2);
    }

    @Says(of = "Promise 15", text = "SAVES (what 0; NONE), how many are ALIVE then (1; as so).")
    static void savesNone() {
        LawsLapse x = deeds();
        savesAre(x, 1, -1, 8);
        savesAre(x, 2, -1, 0);
        savesAre(x, 10, -1, 0);
        x.set(0, 5, 5);
        savesAre(x, 4, -1, 1);
        for (int law = 0; law < 8; law++) x.set(0, law, 0);
        x.set(3, 0, 255);
        savesAre(x, 1, -1, 0);
        LawsLapse y = Given.people(POLICEMAN, 0, POLICEMAN, 0, POLICEMAN, 0, POLICEMAN, 0);
        for (int deed = 0; deed < 4; deed++) y.set(3, deed, 3 << 2 * deed);
        savesAre(y, 10, -1, 8);
    }

    @Says(of = "Promise 15", text = "(1; as so). BAD.")
    static void savesRefuses() {
        LawsLapse x = new LawsLapse();
        int[][] wrong = {{0, 0}, {11, 0}, {-1, 0}, {LEAST, 0}, {MOST, 0}, {1, -1}, {1, 2}, {1, LEAST}, {1, MOST}, {0, 1}, {11, 1}};
        for (int[] a : wrong) Due.is(-2, x.saves(a[0], a[1]), "saves(" + a[0] + ", " + a[1] + ")");
        savesAre(x, 1, -1, 8);
        savesAre(x, 10, -1, 0);
    }

    @Says(of = "Terms 2", text = "LET GO: the LAW that is ALIVE for which the least HARM of all DEEDS that break it (none does: 1000) is greatest; of like ones the first; "
            + "NONE: none is ALIVE.")
    static void letGoTheDearest() {
        LawsLapse x = deeds(1, 5, 3, 9, 252, 8, 4, 30);
        Due.is(1, x.letGo(0), "letGo(0): LAW 1, by 9");
        Due.is(9, x.letGo(1), "letGo(1): LAW 1, by 9");
        x.set(0, 1, 0);
        Due.is(2, x.letGo(0), "letGo(0): LAWS 2 to 7 alike, by 8");
        Due.is(8, x.letGo(1), "letGo(1): LAWS 2 to 7 alike, by 8");
        x.set(3, 2, 255 - 32 - 128);
        Due.is(5, x.letGo(0), "letGo(0): none breaks LAWS 5 and 7");
        Due.is(1000, x.letGo(1), "letGo(1): none breaks LAWS 5 and 7");
        LawsLapse y = deeds(255, 99);
        Due.is(0, y.letGo(0), "letGo(0): all alike");
        Due.is(99, y.letGo(1), "letGo(1): all alike");
        y.set(3, 1, 1);
        y.set(4, 1, 0);
        Due.is(1, y.letGo(0), "letGo(0): all but LAW 0 alike");
        y.set(4, 0, 0);
        Due.is(0, y.letGo(0), "letGo(0): all alike, by 0");
        Due.is(0, y.letGo(1), "letGo(1): all alike, by 0");
        LawsLapse last = deeds(254, 3);
        last.set(3, 9, 1);
        last.set(4, 9, 2);
        Due.is(1, last.letGo(0), "letGo(0): the last DEED breaks LAW 0");
        Due.is(3, last.letGo(1), "letGo(1): the last DEED breaks LAW 0");
        Due.is(0, deeds().letGo(0), "letGo(0): none breaks any");
        Due.is(1000, deeds().letGo(1), "letGo(1): none breaks any");
    }

    @Says(of = "Promise 16", text = "LET GO (what 0; NONE), the least HARM (1; NONE).")
    static void letGoOfNone() {
        LawsLapse x = new LawsLapse();
        for (int law = 0; law < 7; law++) x.set(0, law, 0);
        Due.is(7, x.letGo(0), "letGo(0): the last one ALIVE");
        Due.is(10, x.letGo(1), "letGo(1): the last one ALIVE");
        x.set(0, 7, 1);
        Due.is(7, x.letGo(0), "letGo(0): it has but 1 year LEFT");
        x.set(0, 7, 0);
        Due.is(-1, x.letGo(0), "letGo(0): none is ALIVE");
        Due.is(-1, x.letGo(1), "letGo(1): none is ALIVE");
    }

    @Says(of = "Promise 16", text = "the least HARM (1; NONE). BAD.")
    static void letGoRefuses() {
        LawsLapse x = new LawsLapse();
        for (int what : new int[] {-1, 2, LEAST, MOST}) Due.is(-2, x.letGo(what), "letGo(" + what + ")");
        for (int law = 0; law < 8; law++) x.set(0, law, 0);
        Due.is(-2, x.letGo(2), "letGo(2): BAD ahead of NONE");
    }

    private static void shares(LawsLapse x, long above, long below) {
        Due.is(above, x.share(0), "share(0)");
        Due.is(below, x.share(1), "share(1)");
    }

    @Says(of = "Promise 17", text = "part 0 above, 1 below the line, in lowest terms.")
    static void shareInLowestTerms() {
        LawsLapse x = Given.people(POLICEMAN, 0);
        Given.deeds(x, 1, 0, 2, 0, 4, 0, 8, 0, 16, 0, 32, 0, 64, 0, 128, 0);
        long[][] due = {{0, 1}, {1, 8}, {1, 4}, {3, 8}, {1, 2}, {5, 8}, {3, 4}, {7, 8}, {1, 1}};
        shares(x, due[0][0], due[0][1]);
        for (int deed = 0; deed < 8; deed++) {
            x.does(0, deed);
            shares(x, due[deed + 1][0], due[deed + 1][1]);
        }
        x.year();
        shares(x, 0, 1);
        LawsLapse y = Given.left(Given.people(POLICEMAN, 0), 1, 1, 1, 0, 0, 0, 0, 0);
        y.set(3, 0, 3);
        y.does(0, 0);
        shares(y, 2, 3);
        y.set(0, 2, 0);
        shares(y, 1, 1);
        y.set(0, 1, 0);
        shares(y, 1, 1);
    }

    @Says(of = "Promise 17", text = "NO: part, none is ALIVE.")
    static void shareRefuses() {
        LawsLapse x = new LawsLapse();
        for (int part : new int[] {-1, 2, LEAST, MOST}) Due.is(LawsLapse.NO, x.share(part), "share(" + part + ")");
        shares(x, 0, 1);
        for (int law = 0; law < 7; law++) x.set(0, law, 0);
        shares(x, 0, 1);
        x.set(0, 7, 0);
        shares(x, LawsLapse.NO, LawsLapse.NO);
        Due.is(LawsLapse.NO, x.share(2), "share(2)");
    }

    @Says(of = "Terms 2", text = "SHARE: how many LAWS are BROKEN, of those ALIVE.")
    static void shareOfTheAlive() {
        LawsLapse x = Given.people(THIEF, 0);
        x.set(0, 0, 0);
        Due.is(0, x.does(0, 0), "does(0, 0), which breaks a LAPSED one");
        shares(x, 0, 1);
        x.set(6, 0, 0);
        x.does(0, 1);
        shares(x, 1, 7);
        x.set(0, 0, 5);
        shares(x, 1, 8);
    }
}
