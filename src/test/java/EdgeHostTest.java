import java.io.IOException;

/** Each edge that section 3 of the Terms names, and each of promises 25 to 29; and the 512 calls of an object. */
public final class EdgeHostTest {
    private static final int CITIZEN = Given.CITIZEN, THIEF = Given.THIEF, LEAST = Given.LEAST, MOST = Given.MOST;

    public static void main(String[] args) throws IOException {
        Edges.run(EdgeHostTest.class);
    }

    @Says(of = "What it is", text = "An object is used for at most 512 calls after it has been made")
    static void callsTo512() {
        LawsLapse x = Given.people(CITIZEN, 0);
        int calls = 1;
        for (int year = 1; calls < 512; year++) {
            calls++;
            Due.is(year - 1, x.set(2, 0, year), "set(2, 0, " + year + "), call " + calls);
        }
    }

    @Says(of = "Terms 3", text = "SHEETS 0 .. 3 are rows of numbers, or missing (as all are at first)")
    static void sheetsAreFour() {
        LawsLapse x = Given.people(CITIZEN, 0);
        for (int sheet = 0; sheet < 4; sheet++) Due.is(-11, x.cell(sheet, 0, 0), "cell(" + sheet + ", 0, 0): missing at first");
        for (int sheet = 0; sheet < 4; sheet++) {
            Due.is(1, x.sheet(sheet, 2, 1), "sheet(" + sheet + ", 2, 1)");
            Due.is(1, x.cell(sheet, 0, sheet + 1), "cell(" + sheet + ", 0, ..)");
        }
        for (int none : new int[] {-1, 4, LEAST, MOST}) {
            Due.is(-2, x.sheet(none, 2, 1), "sheet(" + none + ", 2, 1)");
            Due.is(-2, x.cell(none, 0, 1), "cell(" + none + ", 0, 1)");
        }
        for (int sheet = 0; sheet < 3; sheet++) Given.holds(x, sheet, 2, sheet + 1);
    }

    @Says(of = "Terms 3", text = "of sort 0 bytes, 1 shorts, 2 ints.")
    static void sortsAreThree() {
        for (int v : new int[] {0, 127, 128, 255, 999}) {
            LawsLapse x = Given.ruled("dares 1;harms " + v + ";sits 1;", CITIZEN, 0);
            for (int sort = 0; sort < 3; sort++) {
                Given.row(x, 0, sort, v);
                boolean isKept = sort > 0 || v <= 127;
                Due.is(isKept ? -1 : 0, x.tells(0, 0, 0), "tells(0, 0, 0) of " + v + " in sort " + sort);
            }
        }
        LawsLapse x = Given.ruled("dares 1;harms 0;sits 1;", CITIZEN, 0);
        for (int v : new int[] {256, 65536, 1 << 24, LEAST}) {
            for (int sort = 0; sort < 3; sort++) {
                Given.row(x, 0, sort, v);
                boolean isNought = sort == 0 || sort == 1 && v != 256;
                Due.is(isNought ? -1 : 0, x.tells(0, 0, 0), "tells(0, 0, 0) of " + v + " in sort " + sort);
            }
        }
    }

    @Says(of = "Promise 25", text = "A SHEET becomes a row of n of a sort, all 0")
    static void sheetOfNoughts() {
        for (int sort = 0; sort < 3; sort++) {
            LawsLapse x = new LawsLapse();
            Given.row(x, 0, sort, 5, 5, 5, 5);
            Due.is(1, x.sheet(0, sort, 4), "sheet(0, " + sort + ", 4) over another");
            Given.holds(x, 0, sort, 0, 0, 0, 0);
            Due.is(1, x.sheet(0, sort, 2), "sheet(0, " + sort + ", 2)");
            Given.holds(x, 0, sort, 0, 0);
            x.cell(0, 1, 9);
            Due.is(1, x.sheet(0, sort, 0), "sheet(0, " + sort + ", 0): empty");
            Given.holds(x, 0, sort);
            Due.is(1, x.sheet(0, sort, 3), "sheet(0, " + sort + ", 3)");
            Given.holds(x, 0, sort, 0, 0, 0);
            Due.is(1, x.sheet(0, sort, 40), "sheet(0, " + sort + ", 40): the most");
            Due.is(1, x.cell(0, 39, 1), "cell(0, 39, 1)");
            Due.is(-12, x.cell(0, 40, 1), "cell(0, 40, 1)");
            for (int i = 0; i < 40; i++) x.cell(0, i, 7);
            x.sheet(1, sort, 10);
            for (int i = 0; i < 40; i += 10) {
                Due.is(1, x.sheet(0, sort, 40), "sheet(0, " + sort + ", 40) over another");
                Due.is(10, x.copy(0, i, 1, 0, 10), "copy(0, " + i + ", 1, 0, 10)");
                Given.holds(x, 1, sort, 0, 0, 0, 0, 0, 0, 0, 0, 0, 0);
            }
        }
    }

    @Says(of = "Promise 25", text = "or missing (sort -1: n does not matter): 1.")
    static void sheetIsMissingAgain() {
        for (int n : new int[] {0, 1, 40, 41, -1, LEAST, MOST}) {
            LawsLapse x = Given.row(Given.people(CITIZEN, 0), 2, 1, 10);
            Due.is(1, x.sheet(2, -1, n), "sheet(2, -1, " + n + ")");
            Due.is(-11, x.cell(2, 0, 0), "cell(2, 0, 0)");
            Due.is(-11, x.tells(2, 0, 0), "tells(2, 0, 0)");
            Due.is(1, x.sheet(2, -1, n), "sheet(2, -1, " + n + ") of a missing one");
            Due.is(1, x.sheet(2, 1, 1), "sheet(2, 1, 1)");
            Given.holds(x, 2, 1, 0);
        }
    }

    @Says(of = "Promise 25", text = "BAD: no such SHEET, sort; n above 40;")
    static void sheetRefuses() {
        LawsLapse x = Given.row(new LawsLapse(), 0, 1, 4, 5);
        int[][] wrong = {{-1, 0, 1}, {4, 0, 1}, {LEAST, 0, 1}, {MOST, 0, 1}, {0, -2, 1}, {0, 3, 1}, {0, LEAST, 1}, {0, MOST, 1}, {0, 0, 41}, {0, 1, 41},
            {0, 2, 41}, {0, 0, MOST}, {4, -1, 0}, {4, 0, -1}, {0, 3, -1}, {0, -2, 41}};
        for (int[] a : wrong) Due.is(-2, x.sheet(a[0], a[1], a[2]), "sheet(" + a[0] + ", " + a[1] + ", " + a[2] + ")");
        Given.holds(x, 0, 1, 4, 5);
    }

    @Says(of = "Promise 25", text = "n above 40; -14.")
    static void sheetOfASizeBelow0() {
        LawsLapse x = Given.row(new LawsLapse(), 0, 1, 4, 5);
        for (int sort = 0; sort < 3; sort++) {
            for (int n : new int[] {-1, -40, LEAST}) Due.is(-14, x.sheet(0, sort, n), "sheet(0, " + sort + ", " + n + ")");
        }
        Given.holds(x, 0, 1, 4, 5);
        Due.is(-14, x.sheet(1, 0, -1), "sheet(1, 0, -1) of a missing one");
        Due.is(-11, x.cell(1, 0, 0), "cell(1, 0, 0): missing as it was");
    }

    @Says(of = "Promise 26", text = "Item i of a SHEET becomes v (of bytes, shorts its lowest 8, 16 bits): 1.")
    static void cellKeepsItsLowestBits() {
        int[] v = {7, 263, -249, 65536 + 7, 65536 * 3 - 249, LEAST + 7, MOST - 248, 0x7f07, 0x10007, 0x107};
        for (int value : v) {
            for (int sort = 0; sort < 3; sort++) {
                LawsLapse x = new LawsLapse();
                x.sheet(0, sort, 2);
                Due.is(1, x.cell(0, 1, value), "cell(0, 1, " + value + ")");
                int bits = sort == 0 ? 0xff : sort == 1 ? 0xffff : -1;
                boolean is7 = (value & bits) == 7;
                Due.is(is7 ? 1 : 0, x.republic(0, sort, 0, 1), "republic(0, " + sort + ", 0, 1) by " + value);
                if (is7) Due.is(7, x.told(0, 5), "told(0, 5) by " + value);
            }
        }
        LawsLapse x = Given.ruled("dares 0;harms 1;sits 1;", CITIZEN, 0);
        for (int sort = 0; sort < 3; sort++) {
            for (int none : new int[] {-1, 255, 65535}) {
                Given.row(x, 0, sort, none);
                boolean isNone = none == -1 || sort == 0 || sort == 1 && none == 65535;
                Due.is(isNone ? -1 : 0, x.tells(0, 0, 0), "tells(0, 0, 0) of " + none + " in sort " + sort);
            }
        }
    }

    @Says(of = "Promise 26", text = "BAD: no such SHEET; -11;")
    static void cellOfNoSheet() {
        LawsLapse x = Given.row(new LawsLapse(), 0, 1, 4, 5);
        for (int sheet : new int[] {-1, 4, LEAST, MOST}) {
            Due.is(-2, x.cell(sheet, 0, 1), "cell(" + sheet + ", 0, 1)");
            Due.is(-2, x.cell(sheet, -1, 1), "cell(" + sheet + ", -1, 1): BAD ahead of -12");
        }
        for (int sheet = 1; sheet < 4; sheet++) {
            for (int i : new int[] {0, -1, 40, MOST}) Due.is(-11, x.cell(sheet, i, 1), "cell(" + sheet + ", " + i + ", 1)");
        }
        Given.holds(x, 0, 1, 4, 5);
    }

    @Says(of = "Promise 26", text = "-11; -12.")
    static void cellOutside() {
        for (int sort = 0; sort < 3; sort++) {
            LawsLapse x = Given.row(new LawsLapse(), 0, sort, 4, 5);
            for (int i : new int[] {-1, 2, 39, 40, LEAST, MOST}) Due.is(-12, x.cell(0, i, 1), "cell(0, " + i + ", 1)");
            Due.is(1, x.cell(0, 0, 6), "cell(0, 0, 6): the first");
            Due.is(1, x.cell(0, 1, 7), "cell(0, 1, 7): the last");
            Given.holds(x, 0, sort, 6, 7);
            x.sheet(0, sort, 0);
            for (int i : new int[] {-1, 0, 1}) Due.is(-12, x.cell(0, i, 1), "cell(0, " + i + ", 1) of an empty one");
        }
    }

    @Says(of = "Promise 27", text = "n numbers of a SHEET, from item i on, come to another one's item j on (as they were): n.")
    static void copyAsTheyWere() {
        for (int sort = 0; sort < 3; sort++) {
            LawsLapse x = Given.row(Given.row(new LawsLapse(), 0, sort, 1, 2, 3, 4, 5), 1, sort, 9, 9, 9);
            Due.is(3, x.copy(0, 2, 1, 0, 3), "copy(0, 2, 1, 0, 3): to both ends");
            Given.holds(x, 1, sort, 3, 4, 5);
            Due.is(4, x.copy(0, 0, 0, 1, 4), "copy(0, 0, 0, 1, 4): onto themselves, behind");
            Given.holds(x, 0, sort, 1, 1, 2, 3, 4);
            Due.is(4, x.copy(0, 1, 0, 0, 4), "copy(0, 1, 0, 0, 4): onto themselves, ahead");
            Given.holds(x, 0, sort, 1, 2, 3, 4, 4);
            Due.is(5, x.copy(0, 0, 0, 0, 5), "copy(0, 0, 0, 0, 5): onto themselves");
            Given.holds(x, 0, sort, 1, 2, 3, 4, 4);
            for (int i = 0; i <= 5; i++) Due.is(0, x.copy(0, i, 1, i % 4, 0), "copy(0, " + i + ", 1, " + i % 4 + ", 0): none");
            Given.holds(x, 1, sort, 3, 4, 5);
            x.sheet(2, sort, 0);
            Due.is(0, x.copy(2, 0, 0, 5, 0), "copy(2, 0, 0, 5, 0): none of an empty one");
        }
        LawsLapse y = new LawsLapse();
        y.sheet(0, 2, 40);
        y.sheet(1, 2, 40);
        Due.is(40, y.copy(0, 0, 1, 0, 40), "copy(0, 0, 1, 0, 40): the most");
        Due.is(-12, y.copy(0, 0, 1, 0, 41), "copy(0, 0, 1, 0, 41)");
    }

    private static void copies(LawsLapse x, int due, int[]... wrong) {
        for (int[] a : wrong) {
            Due.is(due, x.copy(a[0], a[1], a[2], a[3], a[4]), "copy(" + a[0] + ", " + a[1] + ", " + a[2] + ", " + a[3] + ", " + a[4] + ")");
        }
    }

    @Says(of = "Promise 27", text = "BAD: no such SHEET; -11;")
    static void copyOfNoSheet() {
        LawsLapse x = Given.row(new LawsLapse(), 0, 1, 4, 5);
        copies(x, -2, new int[][] {{-1, 0, 0, 0, 1}, {4, 0, 0, 0, 1}, {LEAST, 0, 0, 0, 1}, {MOST, 0, 0, 0, 1}, {0, 0, -1, 0, 1}, {0, 0, 4, 0, 1},
            {0, 0, LEAST, 0, 1}, {0, 0, MOST, 0, 1}, {3, 0, 4, 0, 1}, {4, 0, 3, 0, 1}, {0, -1, 4, -1, -1}});
        copies(x, -11, new int[][] {{0, 0, 1, 0, 1}, {1, 0, 0, 0, 1}, {1, 0, 1, 0, 1}, {2, 0, 3, 0, 0}, {0, 9, 1, 9, 1}, {1, 0, 0, 0, -1}, {0, 0, 1, 0, 0}});
        Given.holds(x, 0, 1, 4, 5);
    }

    @Says(of = "Promise 27", text = "-13: they are of unlike sorts;")
    static void copyOfUnlikeSorts() {
        LawsLapse x = new LawsLapse();
        for (int sheet = 0; sheet < 3; sheet++) Given.row(x, sheet, sheet, 4, 5);
        for (int i = 0; i < 3; i++) {
            for (int j = 0; j < 3; j++) {
                int[][] some = {{i, 0, j, 0, 1}, {i, 0, j, 0, 0}, {i, 0, j, 0, 2}};
                if (i != j) copies(x, -13, some);
                if (i != j) copies(x, -13, new int[][] {{i, -1, j, 0, 1}, {i, 0, j, 9, 1}, {i, 0, j, 0, -1}, {i, 0, j, 0, 3}});
            }
        }
        for (int sheet = 0; sheet < 3; sheet++) Given.holds(x, sheet, sheet, 4, 5);
    }

    @Says(of = "Promise 27", text = "-12 (also with n below 0).")
    static void copyOutside() {
        for (int sort = 0; sort < 3; sort++) {
            LawsLapse x = Given.row(Given.row(new LawsLapse(), 0, sort, 1, 2, 3, 4, 5), 1, sort, 7, 8, 9);
            copies(x, -12, new int[][] {{0, -1, 1, 0, 1}, {0, 0, 1, -1, 1}, {0, 5, 1, 0, 1}, {0, 0, 1, 3, 1}, {0, 3, 1, 0, 3}, {0, 0, 1, 1, 3}, {0, 0, 1, 0, 4},
                {0, 0, 1, 0, -1}, {0, 5, 1, 3, -1}, {0, 0, 1, 0, LEAST}, {0, 0, 1, 0, MOST}, {0, 6, 1, 0, 0}, {0, 0, 1, 4, 0}, {0, -1, 1, 0, 0}, {0, 0, 1, -1, 0},
                {0, MOST, 1, 0, 1}, {0, 1, 1, 0, MOST}, {0, MOST, 1, 0, MOST}, {0, 0, 1, MOST, 1}, {0, 0, 1, MOST, MOST}, {0, LEAST, 1, 0, 1},
                {0, 0, 1, LEAST, 1}, {0, LEAST, 1, 0, LEAST}, {0, 1, 0, 2, 4}, {0, 2, 0, 1, 4}, {0, 2, 1, 1, -1}});
            Given.holds(x, 0, sort, 1, 2, 3, 4, 5);
            Given.holds(x, 1, sort, 7, 8, 9);
        }
    }

    // ---- republic and taken

    private static void comes(LawsLapse x, int due, int[]... calls) {
        for (int[] a : calls) Due.is(due, x.republic(a[0], a[1], a[2], a[3]), "republic(" + a[0] + ", " + a[1] + ", " + a[2] + ", " + a[3] + ")");
    }

    @Says(of = "Promise 28", text = "from one on, two by two (as of person()), n of them (0 .. 4): how many came (others are left out).")
    static void republicLeavesOut() {
        for (int sort = 0; sort < 3; sort++) {
            LawsLapse x = Given.row(new LawsLapse(), 0, sort, 6, 0, 5, 9, -1, 0, 0, 10, 0, -1, 0, 0);
            comes(x, 0, new int[][] {{0, sort, 0, 0}, {0, sort, 0, 1}, {0, sort, 4, 3}});
            Due.is(0, x.count(0), "PEOPLE: all left out");
            comes(x, 1, new int[][] {{0, sort, 0, 4}});
            Due.is(5, x.told(0, 8), "KIND of the second");
            Due.is(9, x.told(0, 5), "NUMBER of the second");
            comes(x, 1, new int[][] {{0, sort, 10, 1}, {0, sort, 10, 1}, {0, sort, 8, 2}});
            Due.is(4, x.count(0), "PEOPLE");
            comes(x, 0, new int[][] {{0, sort, 10, 1}, {0, sort, 2, 4}});
            Due.is(4, x.count(0), "PEOPLE: there is no room for more");
            LawsLapse y = Given.row(new LawsLapse(), 0, sort, 1, 1, 2, 2, 3, 3, 4, 4);
            comes(y, 4, new int[][] {{0, sort, 0, 4}});
            for (int one = 0; one < 4; one++) Due.is(one + 1, y.told(one, 8), "told(" + one + ", 8)");
            LawsLapse z = Given.row(Given.people(CITIZEN, 0, CITIZEN, 0, CITIZEN, 0), 0, sort, 9, 5, 9, 4, 0);
            comes(z, 1, new int[][] {{0, sort, 1, 2}});
            Due.is(5, z.told(3, 8), "KIND of the last that has room");
            Due.is(0, z.told(3, 6), "for how long that one SITS");
        }
    }

    @Says(of = "Promise 28", text = "BAD: no such SHEET, sort, n;")
    static void republicRefuses() {
        LawsLapse x = Given.row(new LawsLapse(), 0, 1, 1, 1, 2, 2, 3, 3, 4, 4);
        comes(x, -2, new int[][] {{-1, 1, 0, 1}, {4, 1, 0, 1}, {LEAST, 1, 0, 1}, {MOST, 1, 0, 1}, {0, -1, 0, 1}, {0, 3, 0, 1}, {0, LEAST, 0, 1}, {0, MOST, 0, 1},
            {0, 1, 0, -1}, {0, 1, 0, 5}, {0, 1, 0, LEAST}, {0, 1, 0, MOST}, {1, -1, 0, 1}, {1, 1, 0, 5}, {0, 2, 0, 5}, {0, 2, 99, -1}});
        Due.is(0, x.count(0), "PEOPLE");
        comes(x, 4, new int[][] {{0, 1, 0, 4}});
    }

    @Says(of = "Promise 28", text = "-13;")
    static void republicOfAnotherSort() {
        for (int sort = 0; sort < 3; sort++) {
            LawsLapse x = Given.row(new LawsLapse(), 3, sort, 1, 1);
            for (int other = 0; other < 3; other++) {
                if (other != sort) comes(x, -13, new int[][] {{3, other, 0, 1}, {3, other, 0, 0}, {3, other, 9, 1}, {3, other, -1, 4}});
            }
            Due.is(0, x.count(0), "PEOPLE");
            comes(x, 1, new int[][] {{3, sort, 0, 1}});
        }
    }

    @Says(of = "Promise 28", text = "-11;")
    static void republicOfAMissingSheet() {
        LawsLapse x = new LawsLapse();
        for (int sort = 0; sort < 3; sort++) comes(x, -11, new int[][] {{2, sort, 0, 1}, {2, sort, 0, 0}, {2, sort, 9, 4}, {2, sort, -1, 1}});
        x.sheet(2, 1, 2);
        comes(x, 1, new int[][] {{2, 1, 0, 1}});
        x.sheet(2, -1, 0);
        comes(x, -11, new int[][] {{2, 1, 0, 1}});
    }

    @Says(of = "Promise 28", text = "-12: what stood ahead came.")
    static void republicOutside() {
        for (int sort = 0; sort < 3; sort++) {
            LawsLapse x = Given.row(new LawsLapse(), 0, sort, 1, 1, 2, 2, 3);
            comes(x, -12, new int[][] {{0, sort, -1, 1}, {0, sort, 4, 1}, {0, sort, 5, 1}, {0, sort, LEAST, 1}, {0, sort, MOST, 4}, {0, sort, MOST - 1, 2}, {0, sort, -2, 4},
                {0, sort, -4, 4}, {0, sort, LEAST, 4}});
            Due.is(0, x.count(0), "PEOPLE: nothing stood ahead");
            comes(x, -12, new int[][] {{0, sort, 2, 2}});
            Due.is(1, x.count(0), "PEOPLE: one stood ahead");
            Due.is(2, x.told(0, 8), "KIND of that one");
            comes(x, -12, new int[][] {{0, sort, 0, 4}});
            Due.is(3, x.count(0), "PEOPLE: two stood ahead");
            Due.is(1, x.told(1, 8), "KIND of the first");
            Due.is(2, x.told(2, 8), "KIND of the second");
            comes(x, -12, new int[][] {{0, sort, 0, 3}, {0, sort, 0, 3}});
            Due.is(4, x.count(0), "PEOPLE: one more, and no room for others");
            x.sheet(0, sort, 0);
            comes(x, -12, new int[][] {{0, sort, 0, 1}});
            x.sheet(0, sort, 1);
            comes(x, -12, new int[][] {{0, sort, 0, 1}});
        }
    }

    @Says(of = "Promise 29", text = "One of PEOPLE taken for one of KIND k (0 .. 5), or one under that one (also by others between): the NUMBER.")
    static void takenForThoseAbove() {
        int[] above = {1, 1 + 2, 1 + 4, 1 + 2 + 8, 1 + 4 + 16, 1 + 32};
        for (int kind = 0; kind < 6; kind++) {
            for (int number : new int[] {0, 9}) {
                LawsLapse x = Given.people(THIEF, 5, kind, number);
                for (int k = 0; k < 6; k++) {
                    Due.is((above[kind] >> k & 1) == 1 ? number : -13, x.taken(1, k), "taken(1, " + k + ") of KIND " + kind);
                }
            }
        }
    }

    @Says(of = "Promise 29", text = "BAD: k;")
    static void takenRefuses() {
        LawsLapse x = Given.people(CITIZEN, 0);
        for (int k : new int[] {-1, 6, LEAST, MOST}) {
            for (int one : new int[] {0, 1, -1, 4}) Due.is(-2, x.taken(one, k), "taken(" + one + ", " + k + ")");
        }
        Due.is(0, x.taken(0, 0), "taken(0, 0)");
    }

    @Says(of = "Promise 29", text = "-11: none such;")
    static void takenOfNone() {
        LawsLapse x = Given.people(CITIZEN, 3, THIEF, 4);
        for (int k = 0; k < 6; k++) {
            for (int one : new int[] {-1, 2, 3, 4, LEAST, MOST}) Due.is(-11, x.taken(one, k), "taken(" + one + ", " + k + ")");
            Due.is(-11, new LawsLapse().taken(0, k), "taken(0, " + k + "): nobody");
        }
        Due.is(4, x.taken(1, 5), "taken(1, 5): the last");
    }

    @Says(of = "Promise 29", text = "-13.")
    static void takenForAnother() {
        LawsLapse x = Given.people(CITIZEN, 3, THIEF, 4, Given.SPEAKER, 5, Given.ANTIQUARY, 6);
        int[][] wrong = {{0, 1}, {0, 2}, {0, 3}, {0, 4}, {0, 5}, {1, 1}, {1, 2}, {1, 3}, {1, 4}, {2, 2}, {2, 4}, {2, 5}, {3, 1}, {3, 3}, {3, 5}};
        for (int[] a : wrong) Due.is(-13, x.taken(a[0], a[1]), "taken(" + a[0] + ", " + a[1] + ")");
        for (int one = 0; one < 4; one++) Due.is(3 + one, x.taken(one, 0), "taken(" + one + ", 0)");
    }
}
