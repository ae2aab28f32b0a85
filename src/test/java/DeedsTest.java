/** Promises 9 to 12: does, year, run, lasts. */
public final class DeedsTest {
    private static final int CITIZEN = 0, POLICEMAN = 1, CLERK = 2, SPEAKER = 3, ANTIQUARY = 4, THIEF = 5;
    private static final int LEAST = Integer.MIN_VALUE, MOST = Integer.MAX_VALUE;

    public static void main(String[] args) {
        does();
        doesToldAhead();
        doesBounds();
        doesRefuses();
        year();
        yearOfThoseWhoSit();
        yearRefuses();
        run();
        runChoosesAnew();
        runInThought();
        runByTheYear();
        runRefuses();
        lasts();
        Due.end("DeedsTest");
    }

    private static void does() {
        Due.of("promise 9");
        LawsLapse x = new LawsLapse();
        x.person(CITIZEN, 0);
        x.person(POLICEMAN, 0);
        x.set(3, 1, 2 + 8 + 64);
        x.set(0, 6, 0);
        Due.is(2 + 8, x.does(0, 1), "does: those that are ALIVE");
        Due.is(10, x.told(0, 12), "COST");
        Due.is(1, x.told(0, 6), "SITS");
        Due.is(1, x.told(0, 7), "SERVED");
        Due.is(-3, x.does(0, 2), "does: one SITS");
        Due.is(2 + 8 + 4, x.does(1, 2), "does: with those BROKEN ahead");
        Due.is(15, x.told(0, 12), "COST: half of it more");
        Due.is(2 + 8 + 4, x.does(1, 2), "does: one who doesn't SIT, again");
        Due.is(20, x.told(0, 12), "COST");
        Due.is(2, x.told(1, 7), "SERVED");
        Due.is(0, x.told(1, 6), "SITS");
        x.set(3, 4, 64);
        Due.is(2 + 8 + 4, x.does(1, 4), "does: a DEED that breaks but LAPSED ones");
        x.set(3, 4, 0);
        Due.is(2 + 8 + 4, x.does(1, 4), "does: a DEED that breaks none");
        Due.is(30, x.told(0, 12), "COST");
        Due.is(2 + 8 + 4, x.told(0, 11), "BROKEN");
        Due.is(255 - 64, x.told(0, 10), "ALIVE");
        Due.is(0, x.count(2), "YEAR");
    }

    private static void doesToldAhead() {
        Due.of("promise 9, all told ahead");
        LawsLapse x = new LawsLapse();
        Due.rule(x, "dares 1; harms served*10+1; sits served+2;");
        x.person(CITIZEN, 0);
        x.does(0, 0);
        Due.is(1, x.told(0, 12), "COST by what one has SERVED ahead");
        Due.is(2, x.told(0, 6), "SITS by what one has SERVED ahead");
        x.set(6, 0, 0);
        x.does(0, 0);
        Due.is(12, x.told(0, 12), "COST");
        Due.is(3, x.told(0, 6), "SITS");
        x.person(THIEF, 0);
        x.does(1, 0);
        Due.is(1, x.told(1, 6), "a THIEF SITS 1 and SERVED ahead");
        x.set(6, 1, 0);
        x.does(1, 0);
        Due.is(2, x.told(1, 6), "a THIEF SITS 1 and SERVED ahead");
    }

    private static void doesBounds() {
        Due.of("promise 9, the bounds");
        LawsLapse x = new LawsLapse();
        Due.rule(x, "dares 1; harms 999; sits 0;");
        x.person(CITIZEN, 0);
        for (int i = 1; i <= 100; i++) {
            x.does(0, 0);
            Due.is(999L * i, x.told(0, 12), "COST behind " + i);
            Due.is(Math.min(99, i), x.told(0, 7), "SERVED behind " + i);
        }
        x.does(0, 0);
        Due.is(99999, x.told(0, 12), "COST: 99999 at most");
        x.does(0, 0);
        Due.is(99999, x.told(0, 12), "COST: 99999 at most");
        Due.is(99999, x.run(3, 1), "COST in thought: 99999 at most");
    }

    private static void doesRefuses() {
        Due.of("promise 9");
        LawsLapse x = new LawsLapse();
        Due.is(-2, x.does(0, 0), "nobody");
        x.person(CITIZEN, 0);
        x.set(6, 0, 1);
        int[][] wrong = {{-1, 0}, {1, 0}, {0, -1}, {0, 10}, {LEAST, 0}, {MOST, 0}, {0, LEAST}, {0, MOST}};
        for (int[] a : wrong) Due.is(-2, x.does(a[0], a[1]), "does(" + a[0] + ", " + a[1] + ")");
        Due.is(-3, x.does(0, 9), "one SITS");
        x.set(6, 0, 0);
        Due.rule(x, "dares harm<10; harms harm; sits 1;");
        Due.is(-3, x.does(0, 9), "one doesn't DARE it");
        Due.is(0, x.told(0, 11), "BROKEN, unchanged");
        Due.is(0, x.told(0, 12), "COST, unchanged");
        Due.is(0, x.told(0, 7), "SERVED, unchanged");
        x.set(4, 9, 9);
        Due.is(2, x.does(0, 9), "one does");
    }

    private static void year() {
        Due.of("promise 10");
        LawsLapse x = new LawsLapse();
        x.person(CITIZEN, 0);
        x.set(1, 0, 4);
        x.set(0, 0, 1);
        x.set(0, 1, 1);
        x.set(0, 3, 0);
        x.set(0, 4, 9);
        x.set(3, 2, 2 + 16);
        x.does(0, 2);
        Due.is(1, x.year(), "LAWS that LAPSE: 0; 1 is BROKEN, 3 is LAPSED");
        int[] left = {0, 4, 1, 0, 4, 1, 1, 1};
        for (int law = 0; law < 8; law++) Due.is(left[law], x.told(law, 0), "LEFT of " + law);
        Due.is(0, x.told(0, 11), "BROKEN");
        Due.is(1, x.told(0, 2), "YEAR");
        Due.is(10, x.told(0, 12), "COST");
        Due.is(4 + 32 + 64 + 128, x.year(), "LAWS that LAPSE");
        Due.is(2 + 16, x.told(0, 10), "ALIVE");
        Due.is(0, x.year(), "none LAPSES");
        Due.is(0, x.year(), "none LAPSES");
        Due.is(2 + 16, x.year(), "LAWS that LAPSE");
        Due.is(0, x.year(), "none is left");
        Due.is(6, x.told(0, 2), "YEAR");
        Due.is(0, x.told(0, 10), "ALIVE");
        for (int law = 0; law < 8; law++) Due.is(0, x.told(law, 0), "LEFT of " + law);
    }

    private static void yearOfThoseWhoSit() {
        Due.of("promise 10");
        LawsLapse x = new LawsLapse();
        int[] sits = {0, 1, 2, 99};
        int[] then = {0, 0, 1, 98};
        for (int one = 0; one < 4; one++) {
            x.person(CITIZEN, 0);
            x.set(6, one, sits[one]);
            x.set(7, one, 7);
        }
        x.year();
        for (int one = 0; one < 4; one++) {
            Due.is(then[one], x.told(one, 6), "SITS of " + one);
            Due.is(7, x.told(one, 7), "SERVED of " + one);
        }
        Due.is(1, x.does(1, 0), "one who SITS no more");
        Due.is(-3, x.does(2, 0), "one who SITS still");
    }

    private static void yearRefuses() {
        Due.of("promise 10");
        LawsLapse x = new LawsLapse();
        x.set(2, 0, 998);
        Due.is(0, x.year(), "year 998");
        Due.is(999, x.told(0, 2), "YEAR");
        Due.is(-3, x.year(), "year 999");
        Due.is(999, x.told(0, 2), "YEAR, unchanged");
        Due.is(1, x.told(0, 0), "LEFT, unchanged");
        x.set(2, 0, 0);
        Due.is(255, x.year(), "LAWS that LAPSE");
    }

    private static void run() {
        Due.of("promise 11");
        LawsLapse x = new LawsLapse();
        Due.is(255, x.run(1, 0), "nobody, 1 YEAR");
        Due.is(0, x.run(2, 0), "nobody, 2 YEARS");
        x.person(CITIZEN, 0);
        // In each YEAR one does DEED 0, since LAW 0 isn't BROKEN any more, and SITS till its end.
        for (int n = 0; n < 6; n++) {
            Due.is(n < 2 ? 255 : 1, x.run(n, 0), "one CITIZEN, ALIVE behind " + n);
            Due.is(10L * n, x.run(n, 1), "one CITIZEN, COST in " + n);
            Due.is(n, x.run(n, 2), "one CITIZEN, DEEDS in " + n);
        }
        x.set(1, 0, 1);
        Due.is(255, x.run(1, 0), "TERM 1");
        Due.is(1, x.run(2, 0), "TERM 1, LAW 0: broken each year");
        x.does(0, 3);
        Due.is(10, x.run(0, 1), "COST, with what it was");
        Due.is(10, x.run(1, 1), "one SITS this year");
        Due.is(0, x.run(1, 2), "DEEDS: none");
        Due.is(255, x.run(1, 0), "ALIVE behind this year");
        Due.is(1, x.run(2, 0), "ALIVE: LAW 3 was good for 1 year, LAW 0 is broken in the next");
    }

    /** Each takes what is not BROKEN yet, first things first. */
    private static void runChoosesAnew() {
        Due.of("promise 11, the first DEED");
        LawsLapse x = new LawsLapse();
        for (int law = 0; law < 8; law++) x.set(0, law, 1);
        for (int deed = 0; deed < 10; deed++) x.set(3, deed, 0);
        x.set(3, 2, 1 + 2);
        x.set(3, 3, 2);
        x.set(3, 5, 2 + 4);
        x.set(3, 7, 8);
        x.set(4, 7, 30);
        x.person(CITIZEN, 0);
        Due.is(1 + 2, x.run(1, 0), "one: DEED 2");
        x.person(CLERK, 0);
        Due.is(1 + 2 + 4, x.run(1, 0), "two: DEEDS 2, 5; 3 breaks none more");
        x.person(CLERK, 0);
        Due.is(1 + 2 + 4, x.run(1, 0), "three: a CLERK doesn't DARE DEED 7");
        Due.is(2, x.run(1, 2), "DEEDS");
        x.person(POLICEMAN, 0);
        Due.is(1 + 2 + 4 + 8, x.run(1, 0), "four: the last takes DEED 7");
        Due.is(10 + 10 + 15, x.run(1, 1), "COST");
        Due.is(3, x.run(1, 2), "DEEDS");
        x.set(6, 0, 1);
        Due.is(1 + 2 + 4 + 8, x.run(1, 0), "one SITS: the others take 2, 5, 7");
        x.set(0, 0, 0);
        x.set(0, 1, 0);
        Due.is(4 + 8, x.run(1, 0), "LAPSED: the others take 5, 7");
        Due.is(2, x.run(1, 2), "DEEDS");
        x.does(3, 5);
        Due.is(4 + 8, x.run(1, 0), "BROKEN in this year: one takes 7");
        Due.is(1, x.run(1, 2), "DEEDS");
        Due.is(5 + 15, x.run(1, 1), "COST");
    }

    private static void runInThought() {
        Due.of("promise 11, in thought");
        LawsLapse x = new LawsLapse();
        x.person(CITIZEN, 0);
        x.person(THIEF, 1);
        x.does(0, 4);
        int[] was = new int[13];
        for (int what = 0; what < 13; what++) was[what] = x.told(1, what);
        for (int what = 0; what < 3; what++) x.run(20, what);
        for (int law = 0; law < 8; law++) x.lasts(law);
        x.saves(10, 0);
        x.drawn(7, 20);
        x.chance(7, 20, 3, 0);
        x.rota(0);
        x.sheet(0, 1, 3);
        for (int what = 0; what < 9; what++) x.tells(0, 1, what);
        for (int what = 0; what < 13; what++) Due.is(was[what], x.told(1, what), "told(1, " + what + "), unchanged");
        for (int law = 0; law < 8; law++) Due.is(2, x.told(law, 0), "LEFT, unchanged");
        Due.is(0, x.count(5), "THE RULE, unchanged");
        Due.is(16, x.told(0, 11), "BROKEN, unchanged");
    }

    private static void runByTheYear() {
        Due.of("promise 11, YEAR in thought");
        LawsLapse x = new LawsLapse();
        Due.rule(x, "dares 999<year; harms year-1000; sits 0;");
        x.person(CITIZEN, 0);
        x.set(2, 0, 998);
        x.set(0, 0, 9);
        Due.is(0, x.run(2, 2), "behind YEAR 999");
        Due.is(1, x.run(3, 2), "in YEAR 1000");
        Due.is(3, x.run(5, 2), "in YEAR 1002");
        Due.is(0 + 1 + 2, x.run(5, 1), "COST");
        Due.is(1, x.run(5, 0), "ALIVE");

        LawsLapse y = new LawsLapse();
        Due.rule(y, "dares 0; harms 10; sits 0;");
        y.person(SPEAKER, 0);
        y.set(1, 0, 1);
        y.set(0, 0, 3);
        Due.is(0, y.run(1, 2), "a SPEAKER in YEAR 0");
        Due.is(1, y.run(2, 2), "a SPEAKER in YEAR 1");
        Due.is(0, y.run(3, 0), "ALIVE behind 3 YEARS: TERM is 1");
        y.set(1, 0, 2);
        Due.is(1, y.run(20, 0), "ALIVE behind 20 YEARS: TERM is 2");
        Due.is(10, y.run(20, 2), "DEEDS in 20 YEARS");
        Due.is(100, y.run(20, 1), "COST in 20 YEARS");

        LawsLapse z = new LawsLapse();
        Due.rule(z, "dares alive=8 or served; harms alive; sits 0;");
        z.person(ANTIQUARY, 0);
        z.set(0, 7, 1);
        Due.is(1 + 1 + 1, z.run(3, 2), "an ANTIQUARY by what is ALIVE and SERVED");
    }

    private static void runRefuses() {
        Due.of("promise 11");
        LawsLapse x = new LawsLapse();
        int[][] wrong = {{-1, 0}, {21, 0}, {0, -1}, {0, 3}, {LEAST, 0}, {MOST, 0}, {0, LEAST}, {0, MOST}};
        for (int[] a : wrong) Due.is(-2, x.run(a[0], a[1]), "run(" + a[0] + ", " + a[1] + ")");
        Due.is(0, x.run(20, 0), "run(20, 0)");
    }

    private static void lasts() {
        Due.of("promise 12");
        LawsLapse x = new LawsLapse();
        for (int law = 0; law < 8; law++) {
            x.set(0, law, law);
            Due.is(law, x.lasts(law), "nobody, LAW " + law);
        }
        x.set(0, 0, 9);
        Due.is(9, x.lasts(0), "nobody, 9 years LEFT");
        x.person(CITIZEN, 0);
        x.set(0, 0, 2);
        Due.is(-1, x.lasts(0), "one breaks it each year");
        x.set(6, 0, 99);
        Due.is(2, x.lasts(0), "one SITS");
        for (int law : new int[] {-1, 8, LEAST, MOST}) Due.is(-2, x.lasts(law), "lasts(" + law + ")");

        for (int served = 0; served < 6; served++) {
            LawsLapse y = new LawsLapse();
            Due.rule(y, "dares served<5; harms 1; sits 8;");
            y.person(CITIZEN, 0);
            y.set(1, 0, 9);
            y.set(0, 0, 4);
            y.set(7, 0, served);
            for (int deed = 0; deed < 10; deed++) y.set(3, deed, deed == 6 ? 1 : 0);
            // In the years 0, 8, 16, 24, 32 at most; 9 years behind the end of the last.
            int deeds = 5 - served;
            int due = deeds == 0 ? 4 : 8 * (deeds - 1) + 10;
            Due.is(due > 40 ? -1 : due, y.lasts(0), "one who SERVED " + served);
        }

        LawsLapse z = new LawsLapse();
        Due.rule(z, "dares served<4; harms 1; sits 9;");
        z.person(CITIZEN, 0);
        z.set(1, 0, 9);
        z.set(2, 0, 999);
        for (int deed = 0; deed < 10; deed++) z.set(3, deed, deed == 6 ? 1 : 0);
        Due.is(37, z.lasts(0), "in the years 0, 9, 18, 27");
        z.set(6, 0, 3);
        z.set(0, 0, 9);
        Due.is(40, z.lasts(0), "in the years 3, 12, 21, 30: the last that is looked at");
        z.set(6, 0, 4);
        Due.is(-1, z.lasts(0), "in the years 4, 13, 22, 31: behind what is looked at");
    }
}
