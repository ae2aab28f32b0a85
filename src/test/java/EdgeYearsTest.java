import java.io.IOException;

/** Each edge that section 2 of the Terms names of DEEDS that are DONE and of YEARS, and each of promises 9 to 12. */
public final class EdgeYearsTest {
    private static final int CITIZEN = Given.CITIZEN, POLICEMAN = Given.POLICEMAN, CLERK = Given.CLERK;
    private static final int SPEAKER = Given.SPEAKER, THIEF = Given.THIEF;
    private static final int LEAST = Given.LEAST, MOST = Given.MOST;

    public static void main(String[] args) throws IOException {
        Edges.run(EdgeYearsTest.class);
    }

    // ---- the Terms: what is done

    @Says(of = "Terms 2", text = "One CAN do a DEED, if one SITS for no year more, and DARES it.")
    static void oneCanIfFree() {
        LawsLapse x = Given.ruled("dares harm<10;harms harm;sits 1;", CITIZEN, 0);
        x.set(4, 3, 9);
        for (int years : new int[] {1, 2, 99}) {
            x.set(6, 0, years);
            Due.is(0, x.told(0, 9), "told(0, 9) while one SITS for " + years);
            Due.is(-3, x.does(0, 3), "does(0, 3) while one SITS for " + years);
            Due.is(1, x.asks(0, 3, 0), "asks(0, 3, 0): one DARES it all the same");
            Due.is(0, x.run(1, 2), "run(1, 2)");
            Due.is(0, x.rota(0), "rota(0)");
        }
        x.set(6, 0, 0);
        Due.is(8, x.told(0, 9), "told(0, 9) of one who SITS no more");
        Due.is(-3, x.does(0, 2), "does(0, 2), which one doesn't DARE");
        Due.is(8, x.does(0, 3), "does(0, 3)");
    }

    @Says(of = "Terms 2", text = "DONE (all told ahead)")
    static void allIsToldAhead() {
        LawsLapse x = Given.ruled("dares served<2;harms served*10+5;sits served;", CITIZEN, 0);
        Due.is(1, x.does(0, 0), "does(0, 0), SERVED 0");
        Due.is(5, x.told(0, 12), "COST as told ahead");
        Due.is(0, x.told(0, 6), "SITS as told ahead");
        Due.is(1 + 2, x.does(0, 1), "does(0, 1), SERVED 1");
        Due.is(20, x.told(0, 12), "COST as told ahead");
        Due.is(1, x.told(0, 6), "SITS as told ahead");
        x.set(6, 0, 0);
        Due.is(-3, x.does(0, 2), "does(0, 2), SERVED 2");
        LawsLapse y = Given.people(THIEF, 0);
        y.does(0, 0);
        Due.is(1, y.told(0, 6), "a THIEF SITS 1 and what was SERVED ahead");
        y.set(7, 0, 98);
        y.set(6, 0, 0);
        y.does(0, 0);
        Due.is(99, y.told(0, 6), "a THIEF who had SERVED 98");
    }

    @Says(of = "Terms 2", text = "LAWS it breaks that are ALIVE are BROKEN")
    static void onlyTheAliveAreBroken() {
        LawsLapse x = Given.people(POLICEMAN, 0);
        Given.deeds(Given.left(x, 0, 1, 0, 9), 15, 10, 5, 10, 0, 10, 2, 10);
        Due.is(0, x.does(0, 1), "does(0, 1): both are LAPSED");
        Due.is(0, x.does(0, 2), "does(0, 2): it breaks none");
        Due.is(10, x.does(0, 0), "does(0, 0): two of four are LAPSED");
        Due.is(10, x.does(0, 3), "does(0, 3): BROKEN already");
        Due.is(20, x.told(0, 12), "COST: each time, whatever it breaks");
        Due.is(4, x.told(0, 7), "SERVED: each time, whatever it breaks");
    }

    @Says(of = "Terms 2", text = "COST is more by what it COSTS (99999 at most)")
    static void costIsBound() {
        LawsLapse x = Given.ruled("dares 1;harms 999;sits 0;", CITIZEN, 0);
        for (int i = 0; i < 100; i++) x.does(0, 0);
        Due.is(99900, x.told(0, 12), "COST behind 100 of 999");
        x.force(0);
        x.set(4, 0, 98);
        x.does(0, 0);
        Due.is(99998, x.told(0, 12), "COST, 98 more");
        x.set(6, 0, 0);
        x.set(4, 0, 1);
        x.image();
        x.does(0, 0);
        Due.is(99999, x.told(0, 12), "COST, 1 more: at the bound");
        x.set(6, 0, 0);
        x.does(0, 0);
        Due.is(99999, x.told(0, 12), "COST, 1 more still");
        x.back();
        Due.is(99999, x.run(2, 1), "run(2, 1), at the bound");
        x.set(4, 0, 2);
        x.does(0, 0);
        Due.is(99999, x.told(0, 12), "COST, 2 more: over the bound");
        x.force(1);
        Due.is(99999, x.run(20, 1), "run(20, 1), over the bound");
    }

    @Says(of = "Terms 2", text = "one SITS for so many years; SERVED is 1 more (99 at most).")
    static void servedIsBound() {
        LawsLapse x = Given.people(CITIZEN, 0);
        int[] served = {0, 97, 98, 99};
        int[] then = {1, 98, 99, 99};
        for (int i = 0; i < served.length; i++) {
            x.set(7, 0, served[i]);
            x.set(6, 0, 0);
            x.does(0, 0);
            Due.is(then[i], x.told(0, 7), "SERVED, that was " + served[i]);
            Due.is(1, x.told(0, 6), "SITS");
        }
        LawsLapse y = Given.ruled("dares 1;harms served;sits 0;", CITIZEN, 0);
        y.set(7, 0, 98);
        y.set(1, 0, 1);
        Due.is(98 + 99 + 99, y.run(3, 1), "run(3, 1): what it COSTS by SERVED 98, 99, 99");
    }

    // ---- the Terms: a year is over

    @Says(of = "Terms 2", text = "of LAWS that are ALIVE those that are BROKEN have TERM years LEFT, all others 1 less")
    static void yearsLeft() {
        for (int term : new int[] {1, 5, 9}) {
            LawsLapse x = Given.left(Given.people(CITIZEN, 0), 0, 1, 2, 9, 0, 1, 2, 9);
            x.set(1, 0, term);
            x.set(3, 0, 0xf0);
            Due.is(0xe0, x.does(0, 0), "does(0, 0)");
            Due.is(2, x.year(), "year(): LAW 1 had 1 year LEFT and isn't BROKEN");
            int[] then = {0, 0, 1, 8, 0, term, term, term};
            for (int law = 0; law < 8; law++) Due.is(then[law], x.told(law, 0), "told(" + law + ", 0) by TERM " + term);
            Due.is(0xff - 1 - 2 - 16, x.told(0, 10), "ALIVE");
        }
    }

    @Says(of = "Terms 2", text = "BROKEN is none")
    static void brokenIsNone() {
        LawsLapse x = Given.people(CITIZEN, 0);
        x.set(3, 0, 255);
        Due.is(255, x.does(0, 0), "does(0, 0)");
        Due.is(0, x.year(), "year()");
        Due.is(0, x.told(0, 11), "BROKEN");
        Due.is(0, x.year(), "year(): TERM was 2");
        Due.is(255, x.year(), "year(): all LAPSE");
        Due.is(0, x.year(), "year(): none is left");
        Due.is(0, x.told(0, 11), "BROKEN");
    }

    @Says(of = "Terms 2", text = "all who SIT do for 1 year less; YEAR is 1 more.")
    static void yearsToSit() {
        LawsLapse x = Given.people(CITIZEN, 0, CLERK, 0, THIEF, 0, SPEAKER, 0);
        int[] sits = {0, 1, 2, 99};
        int[] then = {0, 0, 1, 98};
        for (int one = 0; one < 4; one++) x.set(6, one, sits[one]);
        x.year();
        for (int one = 0; one < 4; one++) Due.is(then[one], x.told(one, 6), "told(" + one + ", 6), who SAT for " + sits[one]);
        Due.is(1, x.told(0, 2), "YEAR");
        x.set(2, 0, 998);
        x.year();
        Due.is(999, x.told(0, 2), "YEAR");
    }

    @Says(of = "Terms 2", text = "n YEARS (0 .. 20), in thought (there YEAR may pass 999)")
    static void yearsInThought() {
        LawsLapse x = Given.ruled("dares 999<year;harms year-1000;sits 0;", CITIZEN, 0);
        x.set(1, 0, 1);
        x.set(0, 0, 9);
        x.set(2, 0, 999);
        int[] was = Given.all(x);
        Due.is(-3, x.year(), "year() in YEAR 999");
        Due.is(0, x.run(1, 2), "run(1, 2): in YEAR 999");
        Due.is(1, x.run(2, 2), "run(2, 2): in YEARS 999, 1000");
        Due.is(19, x.run(20, 2), "run(20, 2): in YEARS 999 .. 1018");
        Due.is(18 * 19 / 2, x.run(20, 1), "run(20, 1): of 0 .. 18 in YEARS 1000 .. 1018");
        Due.is(1, x.run(20, 0), "run(20, 0)");
        Due.is(-1, x.lasts(0), "lasts(0): to YEAR 1039");
        Due.is(1, x.saves(10, 1), "saves(10, 1): to YEAR 1009");
        x.set(0, 0, 2);
        for (int seed = 0; seed < 50; seed++) {
            int z = seed;
            for (int i = 0; i < 3; i++) z = z * 1103515245 + 12345;
            Due.is((z >>> 9) % 8 == 0 ? 1 : 0, x.drawn(seed, 2), "drawn(" + seed + ", 2): nothing is DARED in YEAR 999, all in 1000");
        }
        x.set(0, 0, 9);
        Given.unchanged(was, x, "YEARS in thought");
        LawsLapse y = Given.ruled("dares 0;harms 1;sits 0;", SPEAKER, 0);
        y.set(2, 0, 999);
        Due.is(1, y.run(2, 2), "run(2, 2): a SPEAKER in odd 999, even 1000");
        Due.is(2, y.run(3, 2), "run(3, 2): a SPEAKER in odd 999, even 1000, odd 1001");
    }

    @Says(of = "Terms 2", text = "in each of which, ahead of its end, PEOPLE by numbers each do the first DEED one CAN do that breaks any LAW that is ALIVE and not BROKEN")
    static void theFirstOfUse() {
        LawsLapse x = Given.deeds(Given.people(CLERK, 0, CITIZEN, 0, CITIZEN, 0), 0, 1, 4, 2, 1, 30, 1 + 2, 3, 2, 4, 8, 5);
        Given.left(x, 1, 1, 0, 1, 0, 0, 0, 0);
        Due.is(2, x.run(1, 2), "run(1, 2): a CLERK doesn't DARE 2 but 3, the next does 5, and none more is of use");
        Due.is(1 + 2 + 8, x.run(1, 0), "run(1, 0)");
        Due.is(8, x.run(1, 1), "run(1, 1)");
        Due.is(0, x.does(0, 1), "does(0, 1): it breaks a LAPSED one");
        Due.is(2, x.run(1, 2), "run(1, 2): the CLERK SITS; the others do 2 and 3");
        Due.is(1 + 2, x.run(1, 0), "run(1, 0)");
        x.set(6, 1, 1);
        x.set(6, 2, 1);
        Due.is(0, x.run(1, 2), "run(1, 2): all SIT");
        Due.is(0, x.run(1, 0), "run(1, 0): all LAPSE");
        LawsLapse last = Given.deeds(Given.people(CITIZEN, 0));
        last.set(3, 9, 128);
        Due.is(20, last.run(20, 2), "run(20, 2): the last DEED alone is of use");
        Due.is(128, last.run(20, 0), "run(20, 0): the last DEED alone is of use");
    }

    @Says(of = "Terms 2", text = "what is ALIVE then (bits), COST, how many DEEDS are DONE in them.")
    static void whatRunTells() {
        LawsLapse x = Given.people(CITIZEN, 0);
        x.does(0, 5);
        Due.is(255, x.run(0, 0), "run(0, 0)");
        Due.is(10, x.run(0, 1), "run(0, 1): COST, as it is");
        Due.is(0, x.run(0, 2), "run(0, 2): in no YEARS none");
        Due.is(255, x.run(1, 0), "run(1, 0)");
        Due.is(10, x.run(1, 1), "run(1, 1): one SITS in this YEAR");
        Due.is(0, x.run(1, 2), "run(1, 2)");
        Due.is(1 + 32, x.run(2, 0), "run(2, 0): LAW 0 is BROKEN in the second, LAW 5 was now");
        Due.is(20, x.run(2, 1), "run(2, 1)");
        Due.is(1, x.run(2, 2), "run(2, 2)");
        Due.is(1, x.run(3, 0), "run(3, 0)");
    }

    @Says(of = "Terms 2", text = "LASTS (a LAW): behind how many such YEARS (0 .. 40) it is LAPSED first; NONE.")
    static void lastsTo40() {
        for (int sits : new int[] {3, 4}) {
            LawsLapse x = Given.ruled("dares served<4;harms 1;sits 9;", CITIZEN, 0);
            Given.deeds(x, 1, 1);
            x.set(1, 0, 9);
            x.set(0, 0, 9);
            x.set(6, 0, sits);
            // In the YEARS sits, sits + 9, sits + 18, sits + 27 ahead; 9 are LEFT at the end of the last of these.
            Due.is(sits == 3 ? 40 : -1, x.lasts(0), "lasts(0) where one SITS for " + sits);
        }
        LawsLapse x = Given.left(new LawsLapse(), 0, 1, 9);
        Due.is(0, x.lasts(0), "lasts(0): it is LAPSED now");
        Due.is(1, x.lasts(1), "lasts(1)");
        Due.is(9, x.lasts(2), "lasts(2)");
        x.person(CITIZEN, 0);
        Due.is(-1, x.lasts(1), "lasts(1): one breaks it in each YEAR");
        x.set(6, 0, 1);
        Due.is(1, x.lasts(1), "lasts(1): one SITS in the first");
        x.set(6, 0, 99);
        Due.is(9, x.lasts(2), "lasts(2): one SITS all the while");
    }

    // ---- promises 9 to 12

    @Says(of = "Promise 9", text = "DONE by one, truly: BROKEN then (bits). BAD;")
    static void doesRefuses() {
        Due.is(-2, new LawsLapse().does(0, 0), "does(0, 0): nobody");
        LawsLapse x = Given.people(CITIZEN, 5, THIEF, 3);
        x.set(6, 0, 1);
        int[] was = Given.all(x);
        int[][] wrong = {{-1, 0}, {2, 0}, {4, 0}, {LEAST, 0}, {MOST, 0}, {0, -1}, {0, 10}, {0, LEAST}, {0, MOST}, {1, -1}, {1, 10}};
        for (int[] a : wrong) Due.is(-2, x.does(a[0], a[1]), "does(" + a[0] + ", " + a[1] + ")");
        Given.unchanged(was, x, "refusals");
        Due.is(2, x.does(1, 9), "does(1, 9): the last of both");
    }

    @Says(of = "Promise 9", text = "STATE: one CAN'T do it.")
    static void doesWhatOneCant() {
        LawsLapse x = Given.people(CLERK, 5, CITIZEN, 3);
        x.set(4, 2, 20);
        x.set(6, 1, 1);
        int[] was = Given.all(x);
        Due.is(-3, x.does(0, 2), "does(0, 2): a CLERK doesn't DARE it");
        Due.is(-3, x.does(1, 2), "does(1, 2): one SITS");
        Given.unchanged(was, x, "refusals");
        x.year();
        Due.is(4, x.does(1, 2), "does(1, 2): one SITS no more");
        Due.is(-3, x.does(1, 2), "does(1, 2): one SITS for it");
    }

    @Says(of = "Promise 10", text = "A YEAR is over, truly: LAWS that LAPSE by it (bits).")
    static void yearTellsThoseThatLapse() {
        LawsLapse x = Given.left(new LawsLapse(), 0, 1, 2, 9, 1, 1, 0, 1);
        Due.is(2 + 16 + 32 + 128, x.year(), "year(): those of 1 year LEFT");
        Due.is(4, x.year(), "year(): those of 2");
        for (int i = 0; i < 6; i++) Due.is(0, x.year(), "year(): none");
        Due.is(8, x.year(), "year(): the one of 9");
        Due.is(0, x.year(), "year(): none is left");
    }

    @Says(of = "Promise 10", text = "STATE: YEAR is 999.")
    static void yearRefuses() {
        LawsLapse x = Given.people(CITIZEN, 0);
        x.does(0, 3);
        x.set(2, 0, 998);
        Due.is(0, x.year(), "year() in YEAR 998");
        Due.is(999, x.told(0, 2), "YEAR");
        x.does(0, 4);
        int[] was = Given.all(x);
        Due.is(-3, x.year(), "year() in YEAR 999");
        Due.is(-3, x.year(), "year() in YEAR 999, again");
        Given.unchanged(was, x, "refusals");
        x.set(2, 0, 998);
        Due.is(255 - 8 - 16, x.year(), "year() in YEAR 998");
    }

    @Says(of = "Promise 11", text = "how many DEEDS are DONE (2). BAD.")
    static void runRefuses() {
        LawsLapse x = Given.people(CITIZEN, 5);
        int[] was = Given.all(x);
        int[][] wrong = {{-1, 0}, {21, 0}, {LEAST, 0}, {MOST, 0}, {0, -1}, {0, 3}, {0, LEAST}, {0, MOST}, {-1, 1}, {21, 1}, {-1, 2}, {21, 2}};
        for (int[] a : wrong) Due.is(-2, x.run(a[0], a[1]), "run(" + a[0] + ", " + a[1] + ")");
        int[] none = {255, 0, 0};
        int[] most = {1, 200, 20};
        for (int what = 0; what < 3; what++) {
            Due.is(none[what], x.run(0, what), "run(0, " + what + "): the fewest");
            Due.is(most[what], x.run(20, what), "run(20, " + what + "): the most");
        }
        Given.unchanged(was, x, "run()");
    }

    @Says(of = "Promise 12", text = "LASTS. BAD;")
    static void lastsRefuses() {
        LawsLapse x = new LawsLapse();
        for (int law : new int[] {-1, 8, LEAST, MOST}) Due.is(-2, x.lasts(law), "lasts(" + law + ")");
        Due.is(2, x.lasts(0), "lasts(0): the first");
        Due.is(2, x.lasts(7), "lasts(7): the last");
        Due.is(2, x.told(7, 0), "LEFT, unchanged");
        Due.is(0, x.told(0, 2), "YEAR, unchanged");
    }

    @Says(of = "Promise 12", text = "NONE.")
    static void lastsForEver() {
        LawsLapse x = Given.people(CITIZEN, 0);
        Due.is(-1, x.lasts(0), "lasts(0): one breaks it in each YEAR");
        Due.is(2, x.lasts(1), "lasts(1)");
        x.set(6, 0, 2);
        Due.is(2, x.lasts(0), "lasts(0): it LAPSES ahead of that");
    }
}
