/** Counts the answers that are not as due. */
final class Due {
    private static int asked;
    private static int wrong;
    private static String of = "";

    private Due() {
    }

    /** What the answers from here on are about. */
    static void of(String promise) {
        of = promise;
    }

    static void is(long want, long got, String call) {
        asked++;
        if (got == want) return;
        wrong++;
        System.out.println(of + ": " + call + " answered " + got + ", due is " + want);
    }

    /** How many answers were looked at so far. */
    static int asked() {
        return asked;
    }

    /** What text() answers of a text, fed first. */
    static int text(LawsLapse x, String text) {
        for (int i = 0; i < text.length(); i++) {
            is(i + 1, x.feed(text.charAt(i)), "feed of byte " + i + " of " + text);
        }
        return x.text();
    }

    /** A text is THE RULE. */
    static void rule(LawsLapse x, String text) {
        int number = text(x, text);
        is(x.count(3) - 1, number, "text() of " + text);
        x.force(number);
    }

    /** What a SHEET tells, as ints. */
    static void tell(LawsLapse x, int sheet, int... costs) {
        is(1, x.sheet(sheet, 2, costs.length), "sheet(" + sheet + ", 2, " + costs.length + ")");
        for (int i = 0; i < costs.length; i++) {
            is(1, x.cell(sheet, i, costs[i]), "cell(" + sheet + ", " + i + ", " + costs[i] + ")");
        }
    }

    static void end(String name) {
        System.out.println(name + ": " + asked + " answers, " + (wrong == 0 ? "all as due" : wrong + " not as due"));
        if (wrong != 0) System.exit(1);
    }
}
