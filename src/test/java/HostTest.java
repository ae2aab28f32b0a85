/** Promises 25 to 29: sheet, cell, copy, republic, taken. */
public final class HostTest {
    private static final int LEAST = Integer.MIN_VALUE, MOST = Integer.MAX_VALUE;

    public static void main(String[] args) {
        sheet();
        cell();
        copy();
        copyRefuses();
        republic();
        republicRefuses();
        taken();
        Due.end("HostTest");
    }

    private static void sheet() {
        Due.of("promise 25");
        LawsLapse x = new LawsLapse();
        int[][] bad = {{-1, 0, 1}, {4, 0, 1}, {0, -2, 1}, {0, 3, 1}, {0, 0, 41}, {LEAST, 0, 1}, {MOST, 0, 1}, {0, LEAST, 1},
            {0, MOST, 1}, {0, 0, MOST}, {-1, 0, -1}, {0, 3, -1}};
        for (int[] a : bad) Due.is(-2, x.sheet(a[0], a[1], a[2]), "sheet(" + a[0] + ", " + a[1] + ", " + a[2] + ")");
        Due.is(-14, x.sheet(0, 0, -1), "sheet(0, 0, -1)");
        Due.is(-14, x.sheet(0, 2, LEAST), "sheet(0, 2, least)");
        Due.is(-11, x.cell(0, 0, 0), "it is missing still");
        for (int sort = 0; sort < 3; sort++) {
            Due.is(1, x.sheet(0, sort, 40), "sheet(0, " + sort + ", 40)");
            Due.is(1, x.cell(0, 39, 1), "its last");
            Due.is(-12, x.cell(0, 40, 1), "behind its last");
            Due.is(-2, x.sheet(0, sort, 41), "sheet(0, " + sort + ", 41)");
            Due.is(-14, x.sheet(0, sort, -1), "sheet(0, " + sort + ", -1)");
            Due.is(1, x.cell(0, 39, 1), "it is as it was");
            Due.is(1, x.sheet(0, sort, 0), "sheet(0, " + sort + ", 0)");
            Due.is(-12, x.cell(0, 0, 1), "it is empty");
        }
        for (int n : new int[] {0, 41, -1, LEAST, MOST}) {
            Due.is(1, x.sheet(0, 1, 3), "sheet(0, 1, 3)");
            Due.is(1, x.sheet(0, -1, n), "sheet(0, -1, " + n + "): n does not matter");
            Due.is(-11, x.cell(0, 0, 0), "it is missing");
        }
        x.sheet(0, 2, 4);
        for (int i = 0; i < 4; i++) x.cell(0, i, 5);
        x.sheet(0, 2, 4);
        Given.holds(x, 0, 2, 0, 0, 0, 0);
        Due.is(1, x.sheet(3, 0, 1), "the last SHEET");
    }

    private static void cell() {
        Due.of("promise 26");
        LawsLapse x = new LawsLapse();
        for (int sheet : new int[] {-1, 4, LEAST, MOST}) Due.is(-2, x.cell(sheet, 0, 0), "cell(" + sheet + ", 0, 0)");
        Due.is(-11, x.cell(1, -1, 0), "-11 is named ahead of -12");
        x.sheet(1, 0, 3);
        for (int i : new int[] {-1, 3, LEAST, MOST}) Due.is(-12, x.cell(1, i, 0), "cell(1, " + i + ", 0)");
        int[] values = {7, 256 + 7, 65536 + 7, -249, LEAST + 7};
        int[][] due = {{7, 7, 7, 7, 7}, {7, 263, 7, -249, 7}, values};
        for (int sort = 0; sort < 3; sort++) {
            for (int i = 0; i < values.length; i++) {
                LawsLapse y = new LawsLapse();
                y.sheet(0, sort, 2);
                Due.is(1, y.cell(0, 1, values[i]), "cell(0, 1, " + values[i] + ")");
                int came = due[sort][i] == 7 ? 1 : 0;
                Due.is(came, y.republic(0, sort, 0, 1), "sort " + sort + ", " + values[i]);
            }
        }
    }

    private static void copy() {
        Due.of("promise 27");
        for (int sort = 0; sort < 3; sort++) {
            LawsLapse x = new LawsLapse();
            x.sheet(0, sort, 6);
            x.sheet(1, sort, 4);
            for (int i = 0; i < 6; i++) x.cell(0, i, i + 1);
            Due.is(3, x.copy(0, 2, 1, 1, 3), "copy(0, 2, 1, 1, 3)");
            Given.holds(x, 1, sort, 0, 3, 4, 5);
            Given.holds(x, 0, sort, 1, 2, 3, 4, 5, 6);
            Due.is(4, x.copy(0, 0, 0, 1, 4), "copy(0, 0, 0, 1, 4): as they were");
            Given.holds(x, 0, sort, 1, 1, 2, 3, 4, 6);
            Due.is(4, x.copy(0, 2, 0, 0, 4), "copy(0, 2, 0, 0, 4): as they were");
            Given.holds(x, 0, sort, 2, 3, 4, 6, 4, 6);
            Due.is(6, x.copy(0, 0, 0, 0, 6), "copy(0, 0, 0, 0, 6)");
            Due.is(0, x.copy(0, 6, 1, 4, 0), "copy of none, at both ends");
            Due.is(0, x.copy(0, 0, 1, 0, 0), "copy of none");
            Given.holds(x, 0, sort, 2, 3, 4, 6, 4, 6);
            Given.holds(x, 1, sort, 0, 3, 4, 5);
        }
    }

    private static void copyRefuses() {
        Due.of("promise 27");
        LawsLapse x = new LawsLapse();
        x.sheet(0, 1, 6);
        x.sheet(1, 1, 4);
        x.sheet(2, 2, 4);
        int[][] bad = {{-1, 0, 1, 0, 1}, {4, 0, 1, 0, 1}, {0, 0, -1, 0, 1}, {0, 0, 4, 0, 1}, {LEAST, 0, 1, 0, 1}, {0, 0, MOST, 0, 1},
            {3, 0, 4, 0, 1}, {4, 0, 3, 0, 1}};
        for (int[] a : bad) copies(x, -2, a);
        int[][] missing = {{0, 0, 3, 0, 1}, {3, 0, 0, 0, 1}, {3, 0, 3, 0, 1}, {3, -1, 2, 0, -1}};
        for (int[] a : missing) copies(x, -11, a);
        int[][] unlike = {{0, 0, 2, 0, 1}, {2, 0, 1, 0, 1}, {0, -1, 2, 0, 1}, {0, 0, 2, 0, -1}};
        for (int[] a : unlike) copies(x, -13, a);
        int[][] outside = {{0, -1, 1, 0, 1}, {0, 0, 1, -1, 1}, {0, 0, 1, 0, -1}, {0, 0, 1, 0, 5}, {0, 0, 1, 4, 1}, {0, 6, 1, 0, 1},
            {0, 3, 1, 0, 4}, {0, 0, 1, 1, 4}, {0, 7, 1, 0, 0}, {0, 0, 1, 5, 0}, {0, 2, 1, 2, LEAST}, {0, 2, 1, 2, MOST},
            {0, MOST, 1, 0, MOST}, {0, MOST, 1, 0, 1}, {0, LEAST, 1, 0, 1}, {0, 1, 1, MOST, 1}, {0, 0, 1, LEAST, LEAST}};
        for (int[] a : outside) copies(x, -12, a);
    }

    private static void copies(LawsLapse x, int due, int[] a) {
        Due.is(due, x.copy(a[0], a[1], a[2], a[3], a[4]), "copy(" + a[0] + ", " + a[1] + ", " + a[2] + ", " + a[3] + ", " + a[4] + ")");
    }

    private static LawsLapse withRow(int sort, int... items) {
        LawsLapse x = new LawsLapse();
        x.sheet(0, sort, items.length);
        for (int i = 0; i < items.length; i++) x.cell(0, i, items[i]);
        return x;
    }

    private static void republic() {
        Due.of("promise 28");
        for (int sort = 0; sort < 3; sort++) {
            LawsLapse x = withRow(sort, 5, 9, 0, 1, 3, 2, 4, 7, 1, 1);
            Due.is(0, x.republic(0, sort, 0, 0), "republic of none");
            Due.is(2, x.republic(0, sort, 2, 2), "republic of two");
            Due.is(0, x.told(0, 8), "KIND");
            Due.is(1, x.told(0, 5), "NUMBER");
            Due.is(3, x.told(1, 8), "KIND");
            Due.is(2, x.told(1, 5), "NUMBER");
            Due.is(2, x.republic(0, sort, 0, 4), "republic of four: two have no room");
            Due.is(5, x.told(2, 8), "KIND");
            Due.is(0, x.told(3, 8), "KIND");
            Due.is(0, x.republic(0, sort, 0, 4), "republic of four: none has room");
            Due.is(4, x.count(0), "PEOPLE");
        }
        LawsLapse x = withRow(1, 6, 0, 0, 10, -1, 3, 2, -1);
        Due.is(0, x.republic(0, 1, 0, 4), "none of these is as of person()");
        x.cell(0, 3, 9);
        Due.is(1, x.republic(0, 1, 0, 4), "one is");
        Due.is(9, x.told(0, 5), "NUMBER");
        LawsLapse y = withRow(0, 1, 2, 3);
        Due.is(1, y.republic(0, 0, 1, 1), "from item 1 on");
        Due.is(2, y.told(0, 8), "KIND");
        Due.is(3, y.told(0, 5), "NUMBER");
    }

    private static void republicRefuses() {
        Due.of("promise 28");
        LawsLapse x = withRow(1, 0, 1, 2, 3, 9);
        int[][] bad = {{-1, 1, 0, 1}, {4, 1, 0, 1}, {0, -1, 0, 1}, {0, 3, 0, 1}, {0, 1, 0, -1}, {0, 1, 0, 5}, {LEAST, 1, 0, 1},
            {MOST, 1, 0, 1}, {0, LEAST, 0, 1}, {0, MOST, 0, 1}, {0, 1, 0, LEAST}, {0, 1, 0, MOST}, {1, -1, 0, 1}, {1, 0, 0, 5}};
        for (int[] a : bad) comes(x, -2, a);
        int[][] unlike = {{0, 0, 0, 1}, {0, 2, 0, 1}, {0, 0, 9, 1}, {0, 2, -1, 0}};
        for (int[] a : unlike) comes(x, -13, a);
        int[][] missing = {{1, 0, 0, 1}, {1, 1, 0, 1}, {1, 2, -1, 0}};
        for (int[] a : missing) comes(x, -11, a);
        int[][] outside = {{0, 1, -1, 1}, {0, 1, 4, 1}, {0, 1, 5, 1}, {0, 1, LEAST, 4}, {0, 1, MOST, 4}, {0, 1, MOST - 1, 2}, {0, 1, -2, 4}};
        for (int[] a : outside) comes(x, -12, a);
        Due.is(0, x.count(0), "nobody came");
        comes(x, -12, new int[] {0, 1, 0, 3});
        Due.is(2, x.count(0), "what stood ahead came");
        Due.is(2, x.told(1, 8), "KIND");
        comes(x, -12, new int[] {0, 1, 3, 2});
        Due.is(3, x.count(0), "3 and 9 came");
        Due.is(3, x.told(2, 8), "KIND");
        comes(x, 1, new int[] {0, 1, 0, 2});
        comes(x, -12, new int[] {0, 1, 0, 3});
        Due.is(4, x.count(0), "PEOPLE");
    }

    private static void comes(LawsLapse x, int due, int[] a) {
        Due.is(due, x.republic(a[0], a[1], a[2], a[3]), "republic(" + a[0] + ", " + a[1] + ", " + a[2] + ", " + a[3] + ")");
    }

    private static void taken() {
        Due.of("promise 29");
        // Of a KIND (row), taken for one of another (column).
        int[][] is = {{1, 0, 0, 0, 0, 0}, {1, 1, 0, 0, 0, 0}, {1, 0, 1, 0, 0, 0}, {1, 1, 0, 1, 0, 0}, {1, 0, 1, 0, 1, 0}, {1, 0, 0, 0, 0, 1}};
        for (int kind = 0; kind < 6; kind++) {
            LawsLapse x = new LawsLapse();
            x.person(kind, 8);
            for (int k = 0; k < 6; k++) {
                Due.is(is[kind][k] == 1 ? 8 : -13, x.taken(0, k), "KIND " + kind + " taken for " + k);
                Due.is(-11, x.taken(1, k), "none such");
                Due.is(-11, x.taken(-1, k), "none such");
                Due.is(-11, x.taken(MOST, k), "none such");
            }
            for (int k : new int[] {-1, 6, LEAST, MOST}) {
                Due.is(-2, x.taken(0, k), "taken(0, " + k + ")");
                Due.is(-2, x.taken(9, k), "BAD is named ahead of -11");
            }
            x.set(5, 0, 2);
            Due.is(2, x.taken(0, 0), "the NUMBER, as it is now");
        }
    }
}
