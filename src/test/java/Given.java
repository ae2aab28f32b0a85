/** Republics to begin with, and all that one of them tells. */
final class Given {
    static final int CITIZEN = 0, POLICEMAN = 1, CLERK = 2, SPEAKER = 3, ANTIQUARY = 4, THIEF = 5;
    static final int LEAST = Integer.MIN_VALUE, MOST = Integer.MAX_VALUE;

    private Given() {
    }

    /** PEOPLE, each by KIND and NUMBER. */
    static LawsLapse people(int... kindsAndNumbers) {
        LawsLapse x = new LawsLapse();
        for (int i = 0; i + 1 < kindsAndNumbers.length; i += 2) {
            Due.is(i / 2, x.person(kindsAndNumbers[i], kindsAndNumbers[i + 1]), "person() of KIND " + kindsAndNumbers[i]);
        }
        return x;
    }

    /** PEOPLE, each by KIND and NUMBER, under a text that is THE RULE. */
    static LawsLapse ruled(String text, int... kindsAndNumbers) {
        LawsLapse x = people(kindsAndNumbers);
        Due.rule(x, text);
        return x;
    }

    /** DEEDS from 0 on, each by what it breaks and its HARM; all others break none, with HARM 50. */
    static LawsLapse deeds(LawsLapse x, int... breaksAndHarm) {
        for (int deed = 0; deed < 10; deed++) {
            boolean isTold = 2 * deed < breaksAndHarm.length;
            x.set(3, deed, isTold ? breaksAndHarm[2 * deed] : 0);
            x.set(4, deed, isTold ? breaksAndHarm[2 * deed + 1] : 50);
        }
        return x;
    }

    /** So many years LEFT of LAWS 0, 1, .. */
    static LawsLapse left(LawsLapse x, int... years) {
        for (int law = 0; law < years.length; law++) x.set(0, law, years[law]);
        return x;
    }

    /** A SHEET of a sort with these items. */
    static LawsLapse row(LawsLapse x, int sheet, int sort, int... items) {
        Due.is(1, x.sheet(sheet, sort, items.length), "sheet(" + sheet + ", " + sort + ", " + items.length + ")");
        for (int i = 0; i < items.length; i++) Due.is(1, x.cell(sheet, i, items[i]), "cell(" + sheet + ", " + i + ", " + items[i] + ")");
        return x;
    }

    /** What a SHEET of a sort holds, item by item of 0 .. 9: each is read as the NUMBER of a CITIZEN, by SHEET 3 and an IMAGE. */
    static void holds(LawsLapse x, int sheet, int sort, int... items) {
        int people = x.count(0);
        x.sheet(3, sort, 2);
        for (int i = 0; i < items.length; i++) {
            Due.is(1, x.copy(sheet, i, 3, 1, 1), "copy(" + sheet + ", " + i + ", 3, 1, 1)");
            x.image();
            Due.is(1, x.republic(3, sort, 0, 1), "republic() by item " + i);
            Due.is(items[i], x.told(people, 5), "item " + i + " of SHEET " + sheet);
            x.back();
            Due.is(people, x.count(0), "PEOPLE, as they were");
        }
        Due.is(-12, x.cell(sheet, items.length, 0), "cell(" + sheet + ", " + items.length + ", 0): it holds no more");
    }

    /** All that told() and count() tell, by 61 calls with four PEOPLE. */
    static int[] all(LawsLapse x) {
        int[] all = new int[80];
        int at = 0;
        for (int what = 0; what < 13; what++) {
            int many = what == 0 ? 8 : what == 3 || what == 4 ? 10 : what >= 5 && what <= 9 ? x.count(0) : 1;
            for (int of = 0; of < many; of++) {
                all[at] = x.told(of, what);
                at++;
            }
        }
        for (int what = 0; what < 6; what++) {
            all[at] = x.count(what);
            at++;
        }
        return all;
    }

    /** Whether all that is told is as it was. */
    static void unchanged(int[] was, LawsLapse x, String behind) {
        int[] is = all(x);
        for (int i = 0; i < is.length; i++) Due.is(was[i], is[i], "told() or count() number " + i + ", behind " + behind + ",");
    }
}
