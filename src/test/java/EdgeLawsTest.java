import java.io.IOException;

/** Each edge that section 1 of the Terms names of laws, deeds and people, and each of promises 1 to 5. */
public final class EdgeLawsTest {
    private static final int CITIZEN = Given.CITIZEN, POLICEMAN = Given.POLICEMAN, CLERK = Given.CLERK;
    private static final int SPEAKER = Given.SPEAKER, ANTIQUARY = Given.ANTIQUARY, THIEF = Given.THIEF;
    private static final int LEAST = Given.LEAST, MOST = Given.MOST;

    public static void main(String[] args) throws IOException {
        Edges.run(EdgeLawsTest.class);
    }

    // ---- the Terms: laws, deeds, people

    /** Bounds of what set() takes: the least, the most, and what stands beside them. */
    private static void bounds(LawsLapse x, int what, int least, int most, int first) {
        Due.is(first, x.told(0, what), "told(0, " + what + ") at first");
        Due.is(-2, x.set(what, 0, least - 1), "set(" + what + ", 0, " + (least - 1) + "): too small");
        Due.is(-2, x.set(what, 0, most + 1), "set(" + what + ", 0, " + (most + 1) + "): too large");
        Due.is(-2, x.set(what, 0, LEAST), "set(" + what + ", 0, the least int)");
        Due.is(-2, x.set(what, 0, MOST), "set(" + what + ", 0, the greatest int)");
        Due.is(first, x.told(0, what), "told(0, " + what + ") behind refusals");
        Due.is(first, x.set(what, 0, most), "set(" + what + ", 0, " + most + ")");
        Due.is(most, x.told(0, what), "told(0, " + what + ") at most");
        Due.is(most, x.set(what, 0, least), "set(" + what + ", 0, " + least + ")");
        Due.is(least, x.told(0, what), "told(0, " + what + ") at least");
    }

    @Says(of = "Terms 1", text = "LAWS 0 .. 7")
    static void lawsAreEight() {
        LawsLapse x = new LawsLapse();
        for (int law = 0; law < 8; law++) Due.is(2, x.set(0, law, law), "set(0, " + law + ", ..)");
        for (int law = 0; law < 8; law++) Due.is(law, x.told(law, 0), "told(" + law + ", 0)");
        for (int none : new int[] {-1, 8, LEAST, MOST}) {
            Due.is(-2, x.set(0, none, 1), "set(0, " + none + ", 1)");
            Due.is(-1000, x.told(none, 0), "told(" + none + ", 0)");
            Due.is(-2, x.lasts(none), "lasts(" + none + ")");
        }
    }

    @Says(of = "Terms 1", text = "LEFT (0 .. 9 years; 2 at first; 0: LAPSED)")
    static void leftIsFrom0To9() {
        LawsLapse x = new LawsLapse();
        bounds(x, 0, 0, 9, 2);
        Due.is(254, x.told(0, 10), "ALIVE: LAW 0 has 0 years LEFT");
        Due.is(0, x.lasts(0), "lasts(0): it is LAPSED");
        Due.is(0, x.set(0, 0, 1), "set(0, 0, 1)");
        Due.is(255, x.told(0, 10), "ALIVE: LAW 0 has 1 year LEFT");
        for (int law = 1; law < 8; law++) Due.is(2, x.told(law, 0), "told(" + law + ", 0) at first");
    }

    @Says(of = "Terms 1", text = "ALIVE: not LAPSED; sets of LAWS are told as bits (0 .. 255)")
    static void setsAreBits() {
        LawsLapse x = new LawsLapse();
        for (int alive : new int[] {0, 1, 128, 170, 85, 127, 254, 255}) {
            for (int law = 0; law < 8; law++) x.set(0, law, alive >> law & 1);
            Due.is(alive, x.told(0, 10), "told(0, 10), ALIVE");
            Due.is(Integer.bitCount(alive), x.count(1), "count(1), how many of " + alive);
            Due.is(alive, x.run(0, 0), "run(0, 0), of " + alive);
        }
        bounds(x, 3, 0, 255, 1);
    }

    @Says(of = "Terms 1", text = "TERM (1 .. 9; 2 at first)")
    static void termIsFrom1To9() {
        LawsLapse x = Given.people(CITIZEN, 0);
        bounds(x, 1, 1, 9, 2);
        x.does(0, 3);
        x.year();
        Due.is(1, x.told(3, 0), "LEFT of LAW 3 by TERM 1");
        x.set(1, 0, 9);
        x.does(0, 3);
        x.year();
        Due.is(9, x.told(3, 0), "LEFT of LAW 3 by TERM 9");
    }

    @Says(of = "Terms 1", text = "YEAR (0 .. 999; 0)")
    static void yearIsFrom0To999() {
        LawsLapse x = new LawsLapse();
        bounds(x, 2, 0, 999, 0);
        x.set(2, 0, 999);
        Due.is(999, x.count(2), "count(2)");
    }

    @Says(of = "Terms 1", text = "BROKEN in this year (a set of those ALIVE; none at first; a LAW that becomes LAPSED isn't of it any more)")
    static void brokenAreAlive() {
        LawsLapse x = Given.people(POLICEMAN, 0);
        Due.is(0, x.told(0, 11), "BROKEN at first");
        x.set(3, 0, 255);
        x.set(0, 2, 0);
        Due.is(255 - 4, x.does(0, 0), "does(0, 0): LAW 2 is LAPSED");
        Due.is(255 - 4, x.told(0, 11), "BROKEN");
        x.set(0, 7, 0);
        Due.is(255 - 4 - 128, x.told(0, 11), "BROKEN: LAW 7 becomes LAPSED");
        x.set(0, 7, 9);
        x.set(0, 2, 9);
        Due.is(255 - 4 - 128, x.told(0, 11), "BROKEN: LAWS 2 and 7 are ALIVE again");
        x.set(0, 0, 1);
        Due.is(255 - 4 - 128, x.told(0, 11), "BROKEN: LAW 0 has another number of years LEFT");
        x.set(3, 0, 0);
        Due.is(255 - 4 - 128, x.told(0, 11), "BROKEN: the DEED that did it breaks none any more");
        for (int law = 0; law < 8; law++) x.set(0, law, 0);
        Due.is(0, x.told(0, 11), "BROKEN: all are LAPSED");
    }

    @Says(of = "Terms 1", text = "COST (0 .. 99999; 0)")
    static void costIsFrom0() {
        LawsLapse x = Given.people(CITIZEN, 0);
        Due.is(0, x.told(0, 12), "COST at first");
        x.set(4, 0, 0);
        x.does(0, 0);
        Due.is(0, x.told(0, 12), "COST behind a DEED of no HARM");
        Due.is(-2, x.set(12, 0, 5), "set(12, 0, 5): COST can't be set");
        Due.is(0, x.told(0, 12), "COST behind a refusal");
    }

    @Says(of = "Terms 1", text = "DEEDS 0 .. 9: a set of LAWS each breaks (at first just LAW (its number modulo 8))")
    static void deedsBreakModulo8() {
        LawsLapse x = new LawsLapse();
        int[] breaks = {1, 2, 4, 8, 16, 32, 64, 128, 1, 2};
        for (int deed = 0; deed < 10; deed++) Due.is(breaks[deed], x.told(deed, 3), "told(" + deed + ", 3)");
        for (int none : new int[] {-1, 10, LEAST, MOST}) {
            Due.is(-2, x.set(3, none, 1), "set(3, " + none + ", 1)");
            Due.is(-1000, x.told(none, 3), "told(" + none + ", 3)");
        }
    }

    @Says(of = "Terms 1", text = "HARM (0 .. 99; 10 at first)")
    static void harmIsFrom0To99() {
        LawsLapse x = new LawsLapse();
        bounds(x, 4, 0, 99, 10);
        for (int deed = 1; deed < 10; deed++) Due.is(10, x.told(deed, 4), "told(" + deed + ", 4)");
        Due.is(-2, x.set(4, 10, 1), "set(4, 10, 1)");
        Due.is(-1000, x.told(10, 4), "told(10, 4)");
    }

    @Says(of = "Terms 1", text = "PEOPLE (4 at most, numbered from 0)")
    static void peopleAreFourAtMost() {
        LawsLapse x = new LawsLapse();
        for (int one = 0; one < 4; one++) {
            Due.is(-1000, x.told(one, 8), "told(" + one + ", 8) ahead of that one");
            Due.is(one, x.person(one, 9 - one), "person() number " + one);
        }
        Due.is(-4, x.person(THIEF, 0), "a fifth");
        Due.is(4, x.count(0), "PEOPLE");
        for (int one = 0; one < 4; one++) {
            Due.is(one, x.told(one, 8), "told(" + one + ", 8)");
            Due.is(9 - one, x.told(one, 5), "told(" + one + ", 5)");
        }
        Due.is(-1000, x.told(4, 8), "told(4, 8)");
    }

    @Says(of = "Terms 1", text = "have a KIND: 0 CITIZEN, 1 POLICEMAN under CITIZEN, 2 CLERK under CITIZEN, 3 SPEAKER under POLICEMAN, "
            + "4 ANTIQUARY under CLERK, 5 THIEF under CITIZEN")
    static void kindsAreSix() {
        for (int kind = 0; kind < 6; kind++) {
            LawsLapse x = Given.people(kind, 4);
            Due.is(kind, x.told(0, 8), "told(0, 8)");
            int taken = 0;
            for (int k = 0; k < 6; k++) taken |= x.taken(0, k) == 4 ? 1 << k : 0;
            int[] due = {1, 1 + 2, 1 + 4, 1 + 2 + 8, 1 + 4 + 16, 1 + 32};
            Due.is(due[kind], taken, "the KINDS that KIND " + kind + " is taken for");
        }
        Due.is(-2, new LawsLapse().person(-1, 4), "person(-1, 4)");
        Due.is(-2, new LawsLapse().person(6, 4), "person(6, 4)");
    }

    @Says(of = "Terms 1", text = "a NUMBER (0 .. 9)")
    static void numberIsFrom0To9() {
        bounds(Given.people(CITIZEN, 3), 5, 0, 9, 3);
        LawsLapse x = new LawsLapse();
        Due.is(-2, x.person(CITIZEN, -1), "person(0, -1)");
        Due.is(-2, x.person(CITIZEN, 10), "person(0, 10)");
        Due.is(0, x.person(CITIZEN, 0), "person(0, 0)");
        Due.is(1, x.person(CITIZEN, 9), "person(0, 9)");
        Due.is(0, x.told(0, 5), "told(0, 5)");
        Due.is(9, x.told(1, 5), "told(1, 5)");
    }

    @Says(of = "Terms 1", text = "SIT for so many years yet (0 .. 99; 0 as one comes)")
    static void sitIsFrom0To99() {
        LawsLapse x = Given.people(CITIZEN, 3);
        bounds(x, 6, 0, 99, 0);
        x.set(6, 0, 99);
        x.person(CITIZEN, 3);
        Due.is(0, x.told(1, 6), "told(1, 6) of one who comes later");
    }

    @Says(of = "Terms 1", text = "SERVED: how many DEEDS one did (0 .. 99; 0)")
    static void servedIsFrom0To99() {
        LawsLapse x = Given.people(POLICEMAN, 3);
        bounds(x, 7, 0, 99, 0);
        for (int many = 1; many < 4; many++) {
            x.does(0, many);
            Due.is(many, x.told(0, 7), "told(0, 7) behind " + many);
        }
        x.does(0, -1);
        Due.is(3, x.told(0, 7), "told(0, 7) behind a refusal");
    }

    @Says(of = "Terms 1", text = "NONE is -1; NO, where a long is answered, -4611686018427387904.")
    static void noneAndNo() {
        Due.is(-1, LawsLapse.NONE, "NONE");
        Due.is(-4611686018427387904L, LawsLapse.NO, "NO");
        LawsLapse x = Given.people(CITIZEN, 0);
        Due.is(-1, x.lasts(0), "lasts(0): one breaks it each year");
        Due.is(-4611686018427387904L, x.share(2), "share(2)");
        Due.is(-4611686018427387904L, x.chance(0, 0, 0, 0), "chance(0, 0, 0, 0)");
    }

    @Says(of = "Terms 1", text = "Quotients are cut toward 0.")
    static void quotientsAreCut() {
        int[] harm = {0, 1, 2, 3, 98, 99};
        int[] half = {0, 0, 1, 1, 49, 49};
        LawsLapse x = Given.people(POLICEMAN, 0, SPEAKER, 0);
        for (int i = 0; i < harm.length; i++) {
            x.set(4, 0, harm[i]);
            Due.is(half[i], x.asks(0, 0, 1), "half of " + harm[i]);
            Due.is(half[i] + 5, x.asks(1, 0, 1), "5 and half of " + harm[i]);
        }
    }

    @Says(of = "Terms 1", text = "Refusals, the first that the call's words name")
    static void theFirstRefusalIsTold() {
        LawsLapse x = Given.people(CITIZEN, 0, CITIZEN, 0, CITIZEN, 0, CITIZEN, 0);
        Due.is(-2, x.person(6, 0), "person(6, 0): BAD ahead of FULL");
        Due.is(-2, x.person(0, 10), "person(0, 10): BAD ahead of FULL");
        x.set(6, 0, 9);
        Due.is(-2, x.does(0, 10), "does(0, 10): BAD ahead of STATE");
        Due.is(-3, x.does(0, 9), "does(0, 9): STATE");
        Due.is(-2, x.tells(4, 0, 0), "tells(4, 0, 0): BAD ahead of -11");
        Due.is(-2, x.tells(3, 4, 0), "tells(3, 4, 0): BAD ahead of -11");
        Due.is(-2, x.tells(3, 0, 9), "tells(3, 0, 9): BAD ahead of -11");
        Due.is(-11, x.tells(3, 0, 8), "tells(3, 0, 8): -11");
        Due.is(-2, x.sheet(4, 0, -1), "sheet(4, 0, -1): BAD ahead of -14");
        Due.is(-2, x.sheet(3, 3, -1), "sheet(3, 3, -1): BAD ahead of -14");
        Due.is(-11, x.cell(3, -1, 0), "cell(3, -1, 0): -11 ahead of -12");
        Due.is(-2, x.cell(4, -1, 0), "cell(4, -1, 0): BAD ahead of -12");
        Given.row(Given.row(x, 0, 0, 1, 2), 1, 1, 1, 2);
        Due.is(-2, x.copy(3, 0, 4, 0, -1), "copy(3, 0, 4, 0, -1): BAD ahead of -11");
        Due.is(-11, x.copy(0, 9, 3, 9, -1), "copy(0, 9, 3, 9, -1): -11 ahead of -12");
        Due.is(-13, x.copy(0, 9, 1, 9, -1), "copy(0, 9, 1, 9, -1): -13 ahead of -12");
        Due.is(-2, x.republic(0, 1, 9, 5), "republic(0, 1, 9, 5): BAD ahead of -13");
        Due.is(-2, x.republic(3, 3, 9, 1), "republic(3, 3, 9, 1): BAD ahead of -11");
        Due.is(-13, x.republic(0, 1, 9, 1), "republic(0, 1, 9, 1): -13 ahead of -12");
        Due.is(-11, x.republic(3, 1, 9, 1), "republic(3, 1, 9, 1): -11 ahead of -12");
        Due.is(-2, x.taken(4, 6), "taken(4, 6): BAD ahead of -11");
        Due.is(-11, x.taken(4, 5), "taken(4, 5): -11 ahead of -13");
        for (int i = 0; i < 160; i++) x.feed('x');
        Due.is(-2, x.feed(256), "feed(256): BAD ahead of FULL");
    }

    @Says(of = "Terms 1", text = "they change nothing")
    static void refusalsChangeNothing() {
        LawsLapse x = Given.people(CLERK, 1, THIEF, 2, SPEAKER, 3, CITIZEN, 4);
        Given.row(x, 0, 2, 9, -1, 9);
        x.set(4, 1, 20);
        x.does(1, 0);
        x.set(2, 0, 999);
        x.feed('d');
        int[] was = Given.all(x);
        x.set(0, 0, 10);
        x.set(1, 0, 0);
        x.set(2, 0, 1000);
        x.set(3, 0, 256);
        x.set(4, 0, 100);
        x.set(5, 0, 10);
        x.set(6, 0, 100);
        x.set(7, 0, 100);
        x.set(7, 4, 5);
        x.set(8, 0, 5);
        x.person(6, 0);
        x.person(0, 0);
        x.feed(256);
        x.force(1);
        x.does(1, 1);
        x.does(0, 1);
        x.does(4, 1);
        x.year();
        x.back();
        x.run(21, 0);
        x.saves(11, 0);
        x.drawn(1, 21);
        x.chance(1, 21, 0, 0);
        x.film(0, 4);
        x.film(4, 0);
        x.sheet(0, 3, 1);
        x.sheet(0, 2, 41);
        x.sheet(0, 2, -1);
        x.cell(0, 3, 1);
        x.copy(0, 0, 0, 1, 3);
        x.copy(0, 0, 0, 1, -1);
        x.republic(0, 1, 0, 1);
        x.republic(0, 2, 3, 1);
        Given.unchanged(was, x, "refusals");
        Due.is(-1, x.tells(0, 0, 0), "the SHEET, as it was");
        Due.is(-12, x.cell(0, 3, 1), "the SHEET, of three items");
    }

    @Says(of = "Terms 1", text = "BAD (-2: a number is none such or not as told), STATE (-3), FULL (-4)")
    static void refusalsOfTheRepublic() {
        Due.is(-2, LawsLapse.BAD, "BAD");
        Due.is(-3, LawsLapse.STATE, "STATE");
        Due.is(-4, LawsLapse.FULL, "FULL");
        LawsLapse x = Given.people(CITIZEN, 0, CITIZEN, 0, CITIZEN, 0, CITIZEN, 0);
        Due.is(-2, x.set(0, 8, 0), "set(0, 8, 0): none such");
        Due.is(-2, x.set(0, 0, 10), "set(0, 0, 10): not as told");
        Due.is(-3, x.back(), "back()");
        Due.is(-4, x.person(0, 0), "person(0, 0)");
    }

    @Says(of = "Terms 1", text = "the host's: -11 nothing where something is asked, -12 a place outside, -13 a thing of another sort or KIND, "
            + "-14 a size below 0.")
    static void refusalsOfTheHost() {
        LawsLapse x = Given.row(Given.people(CITIZEN, 0), 0, 1, 5);
        Due.is(-11, x.cell(1, 0, 0), "cell(1, 0, 0)");
        Due.is(-12, x.cell(0, 1, 0), "cell(0, 1, 0)");
        Due.is(-13, x.republic(0, 2, 0, 0), "republic(0, 2, 0, 0): another sort");
        Due.is(-13, x.taken(0, 1), "taken(0, 1): another KIND");
        Due.is(-14, x.sheet(0, 1, -1), "sheet(0, 1, -1)");
    }

    // ---- the Terms: what KINDS dare

    @Says(of = "Terms 1", text = "DARES (a DEED, dares telling yes, if it isn't 0): CITIZEN: if yes;")
    static void citizenDares() {
        String[] texts = {"0", "1", "2", "9999", "0-1", "1-1", "0=1"};
        int[] yes = {0, 1, 1, 1, 0, 0, 0};
        for (int i = 0; i < texts.length; i++) {
            LawsLapse x = Given.ruled("dares " + texts[i] + ";harms 1;sits 1;", CITIZEN, 0);
            Given.deeds(x, 1, 0, 0, 99, 255, 20);
            for (int deed = 0; deed < 3; deed++) Due.is(yes[i], x.asks(0, deed, 0), "asks(0, " + deed + ", 0) by dares " + texts[i]);
        }
    }

    @Says(of = "Terms 1", text = "POLICEMAN: if yes, or it breaks LAW NUMBER (of NUMBER below 8);")
    static void policemanDares() {
        LawsLapse x = Given.ruled("dares 0;harms 1;sits 1;", POLICEMAN, 0);
        int[] dares = {1 + 256, 2 + 512, 4, 8, 16, 32, 64, 128, 0, 0};
        for (int number = 0; number < 10; number++) {
            x.set(5, 0, number);
            Due.is(dares[number], x.told(0, 9), "told(0, 9) of NUMBER " + number);
        }
        x.set(3, 4, 255);
        Due.is(0, x.told(0, 9), "told(0, 9) of NUMBER 9, with a DEED that breaks all");
        x.set(5, 0, 8);
        Due.is(0, x.told(0, 9), "told(0, 9) of NUMBER 8, with a DEED that breaks all");
        x.set(5, 0, 7);
        x.set(0, 7, 0);
        Due.is(128 + 16, x.told(0, 9), "told(0, 9) of NUMBER 7, whose LAW is LAPSED");
        x.force(0);
        x.set(5, 0, 9);
        Due.is(1023, x.told(0, 9), "told(0, 9) of NUMBER 9, if yes");
    }

    @Says(of = "Terms 1", text = "CLERK: if yes, and HARM of it is below 20;")
    static void clerkDares() {
        LawsLapse x = Given.people(CLERK, 9);
        int[] harm = {0, 19, 20, 21, 99};
        int[] yes = {1, 1, 0, 0, 0};
        for (int i = 0; i < harm.length; i++) {
            x.set(4, 5, harm[i]);
            Due.is(yes[i], x.asks(0, 5, 0), "asks(0, 5, 0) of HARM " + harm[i]);
        }
        Due.rule(x, "dares 0;harms 1;sits 1;");
        x.set(4, 5, 0);
        Due.is(0, x.asks(0, 5, 0), "asks(0, 5, 0) of HARM 0, if not yes");
        Due.rule(x, "dares 1;harms 99;sits 1;");
        Due.is(1, x.asks(0, 5, 0), "asks(0, 5, 0) of HARM 0, whatever it COSTS");
    }

    @Says(of = "Terms 1", text = "SPEAKER: as a POLICEMAN, in odd YEARS, else if yes;")
    static void speakerDares() {
        LawsLapse x = Given.ruled("dares 0;harms 1;sits 1;", SPEAKER, 1);
        int[] years = {0, 1, 2, 997, 998, 999};
        int[] dares = {0, 2 + 512, 0, 2 + 512, 0, 2 + 512};
        for (int i = 0; i < years.length; i++) {
            x.set(2, 0, years[i]);
            x.set(5, 0, 1);
            Due.is(dares[i], x.told(0, 9), "told(0, 9) in YEAR " + years[i]);
            x.set(5, 0, 9);
            Due.is(0, x.told(0, 9), "told(0, 9) of NUMBER 9 in YEAR " + years[i]);
        }
        x.force(0);
        Due.is(1023, x.told(0, 9), "told(0, 9) in YEAR 999, if yes");
        x.set(2, 0, 0);
        Due.is(1023, x.told(0, 9), "told(0, 9) in YEAR 0, if yes");
    }

    @Says(of = "Terms 1", text = "ANTIQUARY: as a CLERK, or if all LAWS it breaks have but 1 year LEFT, and it breaks any;")
    static void antiquaryDares() {
        LawsLapse x = Given.ruled("dares 0;harms 1;sits 1;", ANTIQUARY, 0);
        Given.deeds(Given.left(x, 0, 1, 2, 1, 9, 1), 2, 99, 2 + 8 + 32, 99, 2 + 4, 99, 2 + 1, 99, 0, 0, 1, 0, 16, 0, 32, 0);
        int[] yes = {1, 1, 0, 0, 0, 0, 0, 1};
        String[] why = {"1 year LEFT", "all have 1", "one has 2", "one is LAPSED", "it breaks none", "LAPSED", "9 years LEFT", "1 year LEFT"};
        for (int deed = 0; deed < 8; deed++) Due.is(yes[deed], x.asks(0, deed, 0), "asks(0, " + deed + ", 0): " + why[deed]);
        x.force(0);
        int[] asClerk = {1, 1, 0, 0, 1, 1, 1, 1};
        for (int deed = 0; deed < 8; deed++) Due.is(asClerk[deed], x.asks(0, deed, 0), "asks(0, " + deed + ", 0), if yes: " + why[deed]);
        x.set(4, 4, 19);
        Due.is(1, x.asks(0, 4, 0), "asks(0, 4, 0), if yes, of HARM 19");
        x.set(4, 4, 20);
        Due.is(0, x.asks(0, 4, 0), "asks(0, 4, 0), if yes, of HARM 20, which breaks none");
    }

    @Says(of = "Terms 1", text = "THIEF: always, if it breaks none that is ALIVE, else if yes.")
    static void thiefDares() {
        LawsLapse x = Given.ruled("dares 0;harms 1;sits 1;", THIEF, 0);
        Given.deeds(Given.left(x, 0, 1), 0, 99, 1, 99, 1 + 2, 0, 2, 0, 255, 0);
        int[] yes = {1, 1, 0, 0, 0};
        for (int deed = 0; deed < 5; deed++) Due.is(yes[deed], x.asks(0, deed, 0), "asks(0, " + deed + ", 0)");
        for (int law = 0; law < 8; law++) x.set(0, law, 0);
        Due.is(1023, x.told(0, 9), "told(0, 9): none is ALIVE");
        x.set(0, 7, 1);
        Due.is(1023 - 16, x.told(0, 9), "told(0, 9): LAW 7 alone is ALIVE");
        x.force(0);
        Due.is(1023, x.told(0, 9), "told(0, 9), if yes");
    }

    @Says(of = "Terms 1", text = "THIEF: always, if it breaks none that is ALIVE, else if yes.")
    static void thiefDaresByAliveNotByBroken() {
        LawsLapse x = Given.ruled("dares laws<2;harms 1;sits 0;", CITIZEN, 0, THIEF, 0);
        Given.deeds(x, 1, 0, 2, 0, 1 + 2, 0);
        x.does(0, 0);
        Due.is(1 + 2, x.does(0, 1), "does(0, 1): LAWS 0 and 1 are BROKEN");
        Due.is(0, x.asks(1, 2, 0), "asks(1, 2, 0): all it breaks are BROKEN, and so ALIVE");
        x.set(0, 0, 0);
        Due.is(0, x.asks(1, 2, 0), "asks(1, 2, 0): LAW 1 is ALIVE");
        x.set(0, 1, 0);
        Due.is(1, x.asks(1, 2, 0), "asks(1, 2, 0): neither is ALIVE");
    }

    // ---- the Terms: what DEEDS cost by KINDS

    /** What DEED 9, which breaks two LAWS, of which one is LAPSED, COSTS the second of PEOPLE by what harms tells. */
    private static void costs(int kind, int number, int... harmsAndDue) {
        for (int i = 0; i < harmsAndDue.length; i += 2) {
            LawsLapse x = Given.ruled("dares 1;harms " + harmsAndDue[i] + ";sits 1;", CITIZEN, 5, kind, number);
            x.set(3, 9, 1 + 2);
            x.set(0, 0, 0);
            Due.is(harmsAndDue[i + 1], x.asks(1, 9, 1), "asks(1, 9, 1) of NUMBER " + number + ", harms " + harmsAndDue[i]);
        }
    }

    @Says(of = "Terms 1", text = "COSTS (a DEED, harms telling v): CITIZEN: v;")
    static void citizenCosts() {
        costs(CITIZEN, 9, 0, 0, 1, 1, 999, 999, 1000, 999, -1, 0);
    }

    @Says(of = "Terms 1", text = "POLICEMAN: half (cut) of a CITIZEN's;")
    static void policemanCosts() {
        costs(POLICEMAN, 9, 0, 0, 1, 0, 2, 1, 3, 1, 998, 499, 999, 499, 9999, 499, -3, 0);
    }

    @Says(of = "Terms 1", text = "CLERK: NUMBER less than a CITIZEN, 0 at least;")
    static void clerkCosts() {
        costs(CLERK, 9, 0, 0, 8, 0, 9, 0, 10, 1, 999, 990, 9999, 990, -1, 0);
        costs(CLERK, 0, 0, 0, 1, 1, 999, 999);
    }

    @Says(of = "Terms 1", text = "SPEAKER: as a POLICEMAN, and 5;")
    static void speakerCosts() {
        costs(SPEAKER, 9, 0, 5, 1, 5, 2, 6, 999, 504, 9999, 504, -4, 5);
    }

    @Says(of = "Terms 1", text = "ANTIQUARY: as a CLERK, and as many as LAWS it breaks;")
    static void antiquaryCosts() {
        costs(ANTIQUARY, 9, 0, 2, 8, 2, 9, 2, 10, 3, 999, 992, -5, 2);
        LawsLapse x = Given.people(ANTIQUARY, 3);
        for (int breaks : new int[] {0, 1, 127, 255}) {
            x.set(3, 0, breaks);
            Due.is(7 + Integer.bitCount(breaks), x.asks(0, 0, 1), "asks(0, 0, 1) where it breaks " + breaks);
        }
    }

    @Says(of = "Terms 1", text = "THIEF: twice a CITIZEN's.")
    static void thiefCosts() {
        costs(THIEF, 9, 0, 0, 1, 2, 499, 998, -1, 0);
    }

    @Says(of = "Terms 1", text = "THIEF: twice a CITIZEN's. (0 .. 999, else the bound.)")
    static void costsAreBound() {
        costs(THIEF, 0, 499, 998, 500, 999, 999, 999, 9999, 999);
        costs(ANTIQUARY, 0, 996, 998, 997, 999, 998, 999, 999, 999);
        LawsLapse x = Given.ruled("dares 1;harms 999;sits 0;", THIEF, 0, ANTIQUARY, 0);
        x.set(3, 0, 255);
        Due.is(999, x.asks(1, 0, 1), "asks(1, 0, 1): 999 and 8");
        x.does(0, 0);
        Due.is(999, x.told(0, 12), "COST");
        x.does(1, 0);
        Due.is(1998, x.told(0, 12), "COST");
    }

    // ---- the Terms: how long KINDS sit

    /** For how long the second of PEOPLE SITS by DEED 8, which alone is of HARM 0, by what sits tells. */
    private static void sits(int kind, int number, int... sitsAndDue) {
        for (int i = 0; i < sitsAndDue.length; i += 2) {
            LawsLapse x = Given.ruled("dares 1;harms 1;sits " + sitsAndDue[i] + "+100*harm;", CITIZEN, 9 - number, kind, number);
            x.set(4, 8, 0);
            Due.is(sitsAndDue[i + 1], x.asks(1, 8, 2), "asks(1, 8, 2) of NUMBER " + number + ", sits " + sitsAndDue[i]);
            x.does(1, 8);
            Due.is(sitsAndDue[i + 1], x.told(1, 6), "told(1, 6) of NUMBER " + number + ", sits " + sitsAndDue[i]);
            Due.is(0, x.told(0, 6), "told(0, 6) of another");
        }
    }

    @Says(of = "Terms 1", text = "SITS (so many years by a DEED, sits telling v): CITIZEN: v;")
    static void citizenSits() {
        sits(CITIZEN, 9, 0, 0, 1, 1, 98, 98, 99, 99);
    }

    @Says(of = "Terms 1", text = "v; POLICEMAN: 0;")
    static void policemanSits() {
        sits(POLICEMAN, 0, 0, 0, 1, 0, 99, 0);
    }

    @Says(of = "Terms 1", text = "CLERK: as a CITIZEN, 3 at most;")
    static void clerkSits() {
        sits(CLERK, 9, 0, 0, 2, 2, 3, 3, 4, 3, 100, 3, -1, 0);
    }

    @Says(of = "Terms 1", text = "SPEAKER: 1, if NUMBER is below 5, else 0;")
    static void speakerSits() {
        sits(SPEAKER, 0, 0, 1, 9, 1);
        sits(SPEAKER, 4, 0, 1, 9, 1);
        sits(SPEAKER, 5, 0, 0, 9, 0);
        sits(SPEAKER, 9, 0, 0, 9, 0);
    }

    @Says(of = "Terms 1", text = "ANTIQUARY: twice a CLERK's;")
    static void antiquarySits() {
        sits(ANTIQUARY, 9, 0, 0, 1, 2, 2, 4, 3, 6, 4, 6, 99, 6, -1, 0);
    }

    @Says(of = "Terms 1", text = "THIEF: 1 and SERVED. (0 .. 99, else the bound.)")
    static void thiefSits() {
        LawsLapse x = Given.people(THIEF, 0);
        int[] served = {0, 1, 97, 98, 99};
        int[] due = {1, 2, 98, 99, 99};
        for (int i = 0; i < served.length; i++) {
            x.set(7, 0, served[i]);
            Due.is(due[i], x.asks(0, 0, 2), "asks(0, 0, 2) where SERVED is " + served[i]);
            x.does(0, 0);
            Due.is(due[i], x.told(0, 6), "told(0, 6) where SERVED was " + served[i]);
            x.set(6, 0, 0);
        }
        sits(CITIZEN, 0, 99, 99, 100, 99, 9999, 99, -1, 0);
    }

    // ---- promises 1 to 5

    @Says(of = "Promise 1", text = "Eight LAWS, ten DEEDS, nobody.")
    static void aNewObject() {
        LawsLapse x = new LawsLapse();
        Due.is(8, x.count(1), "LAWS that are ALIVE");
        Due.is(255, x.told(0, 10), "ALIVE");
        Due.is(2, x.told(9, 3), "the last DEED");
        Due.is(-1000, x.told(10, 3), "a DEED behind it");
        int[] counts = {0, 8, 0, 1, 0, 0};
        for (int what = 0; what < 6; what++) Due.is(counts[what], x.count(what), "count(" + what + ")");
        Due.is(-1000, x.told(0, 8), "told(0, 8): nobody");
        Due.is(-2, x.asks(0, 0, 0), "asks(0, 0, 0): nobody");
        Due.is(-2, x.does(0, 0), "does(0, 0): nobody");
        Due.is(-2, x.film(0, 0), "film(0, 0): nobody");
        Due.is(-11, x.taken(0, 0), "taken(0, 0): nobody");
        LawsLapse y = Given.people(CITIZEN, 0);
        y.does(0, 0);
        y.set(0, 1, 0);
        Due.is(0, x.count(0), "PEOPLE, where one came to another object");
        Due.is(255, x.told(0, 10), "ALIVE, where a LAW of another object LAPSED");
        Due.is(0, x.told(0, 11), "BROKEN, where one of another object did a DEED");
    }

    @Says(of = "Promise 2", text = "TERM (1; of does not matter)")
    static void setOfTerm() {
        LawsLapse x = new LawsLapse();
        int was = 2;
        for (int of : new int[] {-1, 8, 10, LEAST, MOST}) {
            Due.is(was, x.set(1, of, was % 9 + 1), "set(1, " + of + ", ..)");
            was = was % 9 + 1;
            Due.is(was, x.told(0, 1), "TERM");
        }
    }

    @Says(of = "Promise 2", text = "YEAR (2; nor)")
    static void setOfYear() {
        LawsLapse x = new LawsLapse();
        int was = 0;
        for (int of : new int[] {-1, 8, 10, LEAST, MOST}) {
            Due.is(was, x.set(2, of, was + 100), "set(2, " + of + ", ..)");
            was += 100;
            Due.is(was, x.told(0, 2), "YEAR");
        }
    }

    @Says(of = "Promise 2", text = "of one of PEOPLE becomes v: what it was. BAD.")
    static void setRefuses() {
        LawsLapse x = Given.people(CITIZEN, 5, THIEF, 6);
        int[] was = Given.all(x);
        int[] least = {0, 1, 0, 0, 0, 0, 0, 0};
        int[] most = {9, 9, 999, 255, 99, 9, 99, 99};
        int[] many = {8, 0, 0, 10, 10, 2, 2, 2};
        for (int what = 0; what < 8; what++) {
            for (int v : new int[] {least[what] - 1, most[what] + 1, LEAST, MOST}) Due.is(-2, x.set(what, 0, v), "set(" + what + ", 0, " + v + ")");
            if (many[what] == 0) continue;
            for (int of : new int[] {-1, many[what], LEAST, MOST}) Due.is(-2, x.set(what, of, 1), "set(" + what + ", " + of + ", 1)");
        }
        for (int what : new int[] {-1, 8, 9, 10, 11, 12, 13, LEAST, MOST}) Due.is(-2, x.set(what, 0, 1), "set(" + what + ", 0, 1)");
        Given.unchanged(was, x, "refusals");
        Due.is(2, x.set(0, 7, 9), "set(0, 7, 9): the last LAW");
        Due.is(2, x.set(3, 9, 9), "set(3, 9, 9): the last DEED");
        Due.is(10, x.set(4, 9, 9), "set(4, 9, 9): the last DEED");
        Due.is(6, x.set(5, 1, 9), "set(5, 1, 9): the last of PEOPLE");
        Due.is(0, x.set(6, 1, 9), "set(6, 1, 9): the last of PEOPLE");
        Due.is(0, x.set(7, 1, 9), "set(7, 1, 9): the last of PEOPLE");
    }

    @Says(of = "Promise 3", text = "One of PEOPLE: the number. BAD;")
    static void personRefuses() {
        LawsLapse x = Given.people(CITIZEN, 0);
        int[] was = Given.all(x);
        int[][] wrong = {{-1, 0}, {6, 0}, {LEAST, 0}, {MOST, 0}, {0, -1}, {0, 10}, {0, LEAST}, {0, MOST}, {6, 10}};
        for (int[] a : wrong) Due.is(-2, x.person(a[0], a[1]), "person(" + a[0] + ", " + a[1] + ")");
        Given.unchanged(was, x, "refusals");
        Due.is(1, x.person(5, 9), "person(5, 9): the greatest of both");
        Due.is(2, x.person(0, 0), "person(0, 0): the least of both");
    }

    @Says(of = "Promise 3", text = "FULL.")
    static void personIsFull() {
        LawsLapse x = Given.people(CITIZEN, 0, CLERK, 1, THIEF, 2, SPEAKER, 3);
        int[] was = Given.all(x);
        Due.is(-4, x.person(CITIZEN, 0), "a fifth");
        Due.is(-4, x.person(THIEF, 9), "a fifth, of another KIND");
        Due.is(-2, x.person(6, 0), "BAD ahead of FULL");
        Given.unchanged(was, x, "refusals");
    }

    @Says(of = "Promise 4", text = "What 0 .. 7 as of set()")
    static void toldAsOfSet() {
        LawsLapse x = Given.people(CITIZEN, 5);
        int[] most = {9, 9, 999, 255, 99, 9, 99, 99};
        for (int what = 0; what < 8; what++) {
            x.set(what, 0, most[what]);
            Due.is(most[what], x.told(0, what), "told(0, " + what + ")");
        }
        for (int of : new int[] {-1, 10, LEAST, MOST}) {
            Due.is(9, x.told(of, 1), "told(" + of + ", 1): of does not matter");
            Due.is(999, x.told(of, 2), "told(" + of + ", 2): of does not matter");
        }
    }

    @Says(of = "Promise 4", text = "8 KIND, 9 DEEDS (bits) one CAN do of one of PEOPLE")
    static void toldWhatOneCanDo() {
        LawsLapse x = Given.people(CLERK, 5);
        Due.is(2, x.told(0, 8), "told(0, 8)");
        Due.is(1023, x.told(0, 9), "told(0, 9): all");
        x.set(4, 0, 20);
        x.set(4, 9, 20);
        Due.is(1023 - 1 - 512, x.told(0, 9), "told(0, 9): all but the first and the last");
        x.set(6, 0, 1);
        Due.is(0, x.told(0, 9), "told(0, 9): none, for one SITS");
    }

    @Says(of = "Promise 4", text = "10 ALIVE (bits; of does not matter), 11 BROKEN (bits; nor), 12 COST (nor).")
    static void toldOfAll() {
        LawsLapse x = Given.people(CITIZEN, 5);
        x.set(0, 6, 0);
        x.does(0, 9);
        for (int of : new int[] {-1, 0, 8, 10, LEAST, MOST}) {
            Due.is(255 - 64, x.told(of, 10), "told(" + of + ", 10)");
            Due.is(2, x.told(of, 11), "told(" + of + ", 11)");
            Due.is(10, x.told(of, 12), "told(" + of + ", 12)");
        }
    }

    @Says(of = "Promise 4", text = "-1000: none such.")
    static void toldOfNone() {
        LawsLapse x = Given.people(CITIZEN, 5, THIEF, 3);
        int[] many = {8, 0, 0, 10, 10, 2, 2, 2, 2, 2};
        for (int what = 0; what < 10; what++) {
            if (many[what] == 0) continue;
            for (int of : new int[] {-1, many[what], LEAST, MOST}) Due.is(-1000, x.told(of, what), "told(" + of + ", " + what + ")");
            Due.is(1, x.told(many[what] - 1, what) != -1000 ? 1 : 0, "told() of the last, what " + what + ", for being some,");
        }
        for (int what : new int[] {-1, 13, LEAST, MOST}) Due.is(-1000, x.told(0, what), "told(0, " + what + ")");
        Due.is(-1000, new LawsLapse().told(0, 5), "told(0, 5): nobody");
    }

    @Says(of = "Promise 5", text = "for how long one SITS by it (2). BAD.")
    static void asksRefuses() {
        Due.is(-2, new LawsLapse().asks(0, 0, 0), "asks(0, 0, 0): nobody");
        LawsLapse x = Given.people(CITIZEN, 5, THIEF, 3);
        int[] was = Given.all(x);
        for (int what = 0; what < 3; what++) {
            int[][] wrong = {{-1, 0}, {2, 0}, {4, 0}, {LEAST, 0}, {MOST, 0}, {0, -1}, {0, 10}, {0, LEAST}, {0, MOST}};
            for (int[] a : wrong) Due.is(-2, x.asks(a[0], a[1], what), "asks(" + a[0] + ", " + a[1] + ", " + what + ")");
        }
        for (int what : new int[] {-1, 3, LEAST, MOST}) Due.is(-2, x.asks(0, 0, what), "asks(0, 0, " + what + ")");
        int[] due = {1, 20, 1};
        for (int what = 0; what < 3; what++) Due.is(due[what], x.asks(1, 9, what), "asks(1, 9, " + what + "): the last of both");
        x.set(6, 1, 99);
        for (int what = 0; what < 3; what++) Due.is(due[what], x.asks(1, 9, what), "asks(1, 9, " + what + ") of one who SITS");
        x.set(6, 1, 0);
        Given.unchanged(was, x, "asks()");
    }
}
