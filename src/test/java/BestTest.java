/** Promises 13 to 17: cover, rota, saves, letGo, share. */
public final class BestTest {
    private static final int CITIZEN = 0, POLICEMAN = 1, CLERK = 2, ANTIQUARY = 4, THIEF = 5;
    private static final int LEAST = Integer.MIN_VALUE, MOST = Integer.MAX_VALUE;

    public static void main(String[] args) {
        cover();
        coverOfLikeOnes();
        coverRefuses();
        rota();
        rotaOfLikeOnes();
        rotaOfMany();
        saves();
        savesRefuses();
        letGo();
        share();
        Due.end("BestTest");
    }

    /** Deeds that break such sets, with such harm; all others break none. */
    private static LawsLapse of(int... breaksAndHarm) {
        LawsLapse x = new LawsLapse();
        for (int deed = 0; deed < 10; deed++) {
            boolean told = 2 * deed < breaksAndHarm.length;
            x.set(3, deed, told ? breaksAndHarm[2 * deed] : 0);
            x.set(4, deed, told ? breaksAndHarm[2 * deed + 1] : 50);
        }
        return x;
    }

    private static void covers(LawsLapse x, int set, int deeds, int harm, int fewest, int many) {
        Due.is(deeds, x.cover(set, 0), "cover(" + set + ", 0)");
        Due.is(harm, x.cover(set, 1), "cover(" + set + ", 1)");
        Due.is(fewest, x.cover(set, 2), "cover(" + set + ", 2)");
        Due.is(many, x.cover(set, 3), "cover(" + set + ", 3)");
    }

    private static void cover() {
        Due.of("promise 13");
        LawsLapse x = of(1, 5, 2, 5, 4, 5, 7, 30, 3, 11, 6, 9);
        covers(x, 0, 0, 0, 0, 0);
        covers(x, 1, 1, 5, 1, 1);
        covers(x, 3, 1 + 2, 10, 16, 1);
        covers(x, 6, 32, 9, 32, 1);
        covers(x, 7, 1 + 32, 14, 8, 1);
        covers(x, 8, -1, -1, -1, -1);
        covers(x, 15, -1, -1, -1, -1);
        x.set(0, 1, 0);
        covers(x, 3, 1 + 2, 10, 16, 1);
        x.person(CITIZEN, 0);
        x.does(0, 3);
        covers(x, 7, 1 + 32, 14, 8, 1);

        LawsLapse y = new LawsLapse();
        covers(y, 255, 255, 80, 255, 8);
        y.set(4, 0, 99);
        covers(y, 255, 255 - 1 + 256, 80, 255 - 1 + 256, 8);
        y.set(3, 9, 255);
        y.set(4, 9, 79);
        covers(y, 255, 512, 79, 512, 1);
        y.set(4, 9, 80);
        covers(y, 255, 512, 80, 512, 1);
        y.set(4, 9, 81);
        covers(y, 255, 255 - 1 + 256, 80, 512, 1);
    }

    private static void coverOfLikeOnes() {
        Due.of("promise 13, of like ones");
        covers(of(1, 5, 2, 5, 3, 10), 3, 4, 10, 4, 1);
        covers(of(3, 10, 1, 5, 2, 5), 3, 1, 10, 1, 1);
        covers(of(1, 0, 2, 0, 3, 0), 3, 4, 0, 4, 1);
        covers(of(1, 0, 1, 0, 3, 1), 1, 1, 0, 1, 1);
        covers(of(2, 7, 1, 5, 1, 5, 2, 7), 3, 1 + 2, 12, 1 + 2, 2);
        covers(of(1, 9, 1, 8, 1, 8, 2, 6), 3, 2 + 8, 14, 2 + 8, 2);
        covers(of(3, 99, 12, 99, 1, 1, 2, 1, 4, 1, 8, 1), 15, 4 + 8 + 16 + 32, 4, 1 + 2, 2);
        covers(of(3, 99, 12, 99, 5, 90, 10, 90, 1, 1, 2, 1, 4, 1, 8, 1), 15, 16 + 32 + 64 + 128, 4, 4 + 8, 2);
        covers(of(0, 0, 0, 0, 1, 0), 0, 0, 0, 0, 0);
    }

    private static void coverRefuses() {
        Due.of("promise 13");
        LawsLapse x = new LawsLapse();
        int[][] wrong = {{-1, 0}, {256, 0}, {0, -1}, {0, 4}, {LEAST, 0}, {MOST, 0}, {0, LEAST}, {0, MOST}, {255, 4}};
        for (int[] a : wrong) Due.is(-2, x.cover(a[0], a[1]), "cover(" + a[0] + ", " + a[1] + ")");
    }

    private static void rotas(LawsLapse x, int way, int many, int costs) {
        Due.is(way, x.rota(0), "rota(0)");
        Due.is(many, x.rota(1), "rota(1)");
        Due.is(costs, x.rota(2), "rota(2)");
    }

    private static void rota() {
        Due.of("promise 14");
        LawsLapse x = of(1, 5, 6, 9, 7, 30, 8, 40);
        for (int what : new int[] {-1, 3, LEAST, MOST}) Due.is(-2, x.rota(what), "rota(" + what + ")");
        rotas(x, 0, 0, 0);
        x.person(CITIZEN, 0);
        rotas(x, 3, 3, 30);
        x.person(CLERK, 0);
        // A CLERK DARES 0 and 1 alone; 1 CITIZEN takes 3 with 6 of the CLERK: 3 LAWS; or 2 and any: 3; 3 and 1: 3 LAWS for 49.
        rotas(x, 11 * 1 + 2, 3, 14);
        x.set(0, 3, 0);
        rotas(x, 11 * 1 + 2, 3, 14);
        x.set(0, 3, 2);
        x.person(POLICEMAN, 0);
        rotas(x, 121 * 1 + 11 * 2 + 4, 4, 5 + 9 + 20);
        x.set(6, 1, 1);
        rotas(x, 121 * 3 + 11 * 0 + 4, 4, 30 + 20);
        x.set(6, 0, 1);
        rotas(x, 3, 3, 15);
        x.set(6, 2, 1);
        rotas(x, 0, 0, 0);
        x.set(6, 1, 0);
        rotas(x, 11 * 2, 2, 9);
        x.does(1, 1);
        rotas(x, 0, 2, 0);
        x.set(6, 2, 0);
        rotas(x, 1, 3, 2);
    }

    private static void rotaOfLikeOnes() {
        Due.of("promise 14, of like ones");
        LawsLapse x = of(1, 10, 1, 10, 2, 10);
        x.person(CITIZEN, 0);
        rotas(x, 1, 1, 10);
        x.person(CITIZEN, 0);
        rotas(x, 11 * 1 + 3, 2, 20);
        x.person(CITIZEN, 0);
        // One is not needed; none stands ahead of any, for the first.
        rotas(x, 0 + 11 * 1 + 3, 2, 20);
        x.set(4, 0, 11);
        rotas(x, 0 + 11 * 2 + 3, 2, 20);
        x.set(4, 0, 0);
        x.set(4, 1, 0);
        x.set(4, 2, 0);
        rotas(x, 0 + 11 * 1 + 3, 2, 0);
        LawsLapse y = of(3, 20, 1, 10, 2, 10);
        y.person(CITIZEN, 0);
        y.person(CITIZEN, 0);
        rotas(y, 0 + 1, 2, 20);
        y.set(4, 0, 21);
        rotas(y, 11 * 2 + 3, 2, 20);
        y.set(6, 0, 1);
        rotas(y, 1, 2, 21);
        LawsLapse z = of(3, 0);
        z.person(THIEF, 0);
        z.set(0, 0, 0);
        z.set(0, 1, 0);
        rotas(z, 0, 0, 0);
    }

    private static void rotaOfMany() {
        Due.of("promise 14");
        LawsLapse x = new LawsLapse();
        for (int i = 0; i < 4; i++) x.person(CITIZEN, 0);
        rotas(x, ((1 * 11 + 2) * 11 + 3) * 11 + 4, 4, 40);
        for (int deed = 0; deed < 9; deed++) x.set(4, deed, 99);
        x.set(4, 9, 0);
        rotas(x, ((1 * 11 + 3) * 11 + 4) * 11 + 10, 4, 297);
        for (int deed = 0; deed < 10; deed++) x.set(3, deed, 0);
        rotas(x, 0, 0, 0);
        x.set(3, 9, 255);
        x.set(6, 3, 1);
        x.set(5, 2, 3);
        rotas(x, 10 * 11, 8, 0);
        x.set(0, 4, 0);
        rotas(x, 10 * 11, 7, 0);
    }

    private static void savesAre(LawsLapse x, int n, int deed, int many) {
        Due.is(deed, x.saves(n, 0), "saves(" + n + ", 0)");
        Due.is(many, x.saves(n, 1), "saves(" + n + ", 1)");
    }

    private static void saves() {
        Due.of("promise 15");
        LawsLapse x = of(1, 5, 6, 9, 0, 5, 24, 3, 64, 5);
        savesAre(x, 1, -1, 8);
        // TERM 2: what is broken now is good till behind YEAR 3.
        savesAre(x, 2, 1, 2);
        savesAre(x, 3, -1, 0);
        x.set(1, 0, 9);
        savesAre(x, 10, -1, 0);
        savesAre(x, 9, 1, 2);
        x.set(0, 1, 0);
        savesAre(x, 9, 3, 2);
        x.set(0, 3, 0);
        savesAre(x, 9, 0, 1);
        x.set(0, 7, 9);
        savesAre(x, 8, 0, 2);
        savesAre(x, 9, 0, 1);
        Due.is(2, x.told(0, 0), "LEFT, unchanged");
        Due.is(0, x.told(0, 11), "BROKEN, unchanged");
        Due.is(0, x.told(0, 12), "COST, unchanged");

        LawsLapse y = of(1, 5, 2, 5, 3, 5);
        y.person(CITIZEN, 0);
        for (int law = 0; law < 8; law++) y.set(0, law, law < 2 ? 1 : 0);
        // One keeps LAW 0 by DEED 0, unless it is BROKEN: then one does DEED 1 and keeps both.
        savesAre(y, 1, 0, 2);
        Due.is(1, y.run(1, 0), "as so");
        y.does(0, 0);
        savesAre(y, 1, 1, 2);
        y.set(6, 0, 0);
        savesAre(y, 1, -1, 2);
    }

    private static void savesRefuses() {
        Due.of("promise 15");
        LawsLapse x = new LawsLapse();
        int[][] wrong = {{0, 0}, {11, 0}, {-1, 0}, {1, -1}, {1, 2}, {LEAST, 0}, {MOST, 0}, {1, LEAST}, {1, MOST}};
        for (int[] a : wrong) Due.is(-2, x.saves(a[0], a[1]), "saves(" + a[0] + ", " + a[1] + ")");
        Due.is(8, x.saves(1, 1), "saves(1, 1)");
        Due.is(0, x.saves(10, 1), "saves(10, 1)");
    }

    private static void letGo() {
        Due.of("promise 16");
        LawsLapse x = of(1, 5, 3, 9, 252, 8, 4, 30, 8, 7);
        Due.is(1, x.letGo(0), "letGo(0): the least of LAW 1 is 9");
        Due.is(9, x.letGo(1), "letGo(1)");
        x.set(0, 1, 0);
        Due.is(2, x.letGo(0), "LAW 2, of 2 and 4 to 7 the first");
        Due.is(8, x.letGo(1), "letGo(1)");
        x.set(3, 2, 248);
        Due.is(2, x.letGo(0), "LAW 2, by DEED 3");
        Due.is(30, x.letGo(1), "letGo(1)");
        x.set(3, 3, 0);
        Due.is(2, x.letGo(0), "LAW 2: none breaks it");
        Due.is(1000, x.letGo(1), "letGo(1)");
        x.set(3, 2, 8);
        Due.is(2, x.letGo(0), "the first of those that none breaks");
        x.set(4, 0, 6);
        Due.is(0, new LawsLapse().letGo(0), "the first of like ones");
        Due.is(0, of(1, 9, 254, 8).letGo(0), "the first one");
        Due.is(9, of(1, 9, 254, 8).letGo(1), "the first one");
        for (int law = 0; law < 8; law++) x.set(0, law, 0);
        Due.is(-1, x.letGo(0), "none is ALIVE");
        Due.is(-1, x.letGo(1), "none is ALIVE");
        x.set(0, 7, 1);
        Due.is(7, x.letGo(0), "the last one");
        x.set(3, 0, 255);
        x.set(4, 0, 0);
        Due.is(7, x.letGo(0), "the last one, of no HARM");
        Due.is(0, x.letGo(1), "letGo(1)");
        for (int what : new int[] {-1, 2, LEAST, MOST}) Due.is(-2, x.letGo(what), "letGo(" + what + ")");
    }

    private static void shares(LawsLapse x, long above, long below) {
        Due.is(above, x.share(0), "share(0)");
        Due.is(below, x.share(1), "share(1)");
    }

    private static void share() {
        Due.of("promise 17");
        LawsLapse x = of(3, 1, 12, 1, 16, 1, 192, 1);
        x.person(ANTIQUARY, 0);
        Due.rule(x, "dares 1; harms 0; sits 0;");
        shares(x, 0, 1);
        x.does(0, 0);
        shares(x, 1, 4);
        x.does(0, 1);
        shares(x, 1, 2);
        x.does(0, 2);
        shares(x, 5, 8);
        x.set(0, 5, 0);
        shares(x, 5, 7);
        x.set(0, 4, 0);
        shares(x, 2, 3);
        x.does(0, 3);
        shares(x, 1, 1);
        x.year();
        shares(x, 0, 1);
        for (int part : new int[] {-1, 2, LEAST, MOST}) Due.is(LawsLapse.NO, x.share(part), "share(" + part + ")");
        for (int law = 0; law < 8; law++) x.set(0, law, 0);
        shares(x, LawsLapse.NO, LawsLapse.NO);
    }
}
