import java.util.Random;

/** Long runs of drawn calls, wild ones too: LawsLapse must answer each as the Model does, and never throw. */
public final class ModelTest {
    private static final int RUNS = 900;
    /** What later calls answer is free. */
    private static final int CALLS = 512;
    private static final int[] WILD = {-1, -2, Integer.MIN_VALUE, Integer.MAX_VALUE, 4, 8, 10, 11, 100, 256, 1000, 41, 65536, -1000};
    private static final String[] NAMES = {"harm", "laws", "number", "year", "served", "alive"};
    private static final String[] STRAY = {"(", ")", ";", "+", "-", "*", "<", "=", "or", "and", "not", "dares", "harms", "sits",
        "12345", "0", "harm", "x", "harmlaws", "A", "\t", "?", "", " ", "\n"};

    private final Random random;
    private LawsLapse x;
    private Model model;
    private String last = "";
    private int calls;
    private int wrong;

    private ModelTest(long seed) {
        random = new Random(seed);
    }

    public static void main(String[] args) {
        int wrong = 0;
        for (int run = 0; run < RUNS && wrong == 0; run++) {
            wrong += new ModelTest(run).one(run);
        }
        System.out.println(RUNS + " runs beside the model: " + (wrong == 0 ? "all alike" : "not alike"));
        if (wrong != 0) System.exit(1);
    }

    private int one(int run) {
        x = new LawsLapse();
        model = new Model();
        if (run % 4 != 0) furnish();
        while (calls < CALLS && wrong == 0) call();
        if (wrong != 0) System.out.println("run " + run + ", call " + calls + ": " + last);
        return wrong;
    }

    /** People, deeds and a text, so that a run begins with something in it. */
    private void furnish() {
        for (int i = 0; i < 3; i++) {
            int kind = random.nextInt(6);
            int number = random.nextInt(10);
            due("person(" + kind + ", " + number + ")", x.person(kind, number), model.person(kind, number));
        }
        for (int deed = 0; deed < 10; deed++) {
            int breaks = random.nextInt(256) & random.nextInt(256);
            due("set(3, " + deed + ", " + breaks + ")", x.set(3, deed, breaks), model.set(3, deed, breaks));
            int harm = random.nextInt(40);
            due("set(4, " + deed + ", " + harm + ")", x.set(4, deed, harm), model.set(4, deed, harm));
        }
        write(whole());
    }

    private void due(String call, long got, long want) {
        calls++;
        if (got == want || calls > CALLS || wrong != 0) return;
        last = call + " answered " + got + ", the model " + want;
        wrong++;
    }

    private int pick(int bound) {
        if (random.nextInt(25) == 0) return WILD[random.nextInt(WILD.length)];
        return random.nextInt(bound);
    }

    private void call() {
        switch (random.nextInt(7)) {
            case 0: case 1: lawsDeedsPeople(); break;
            case 2: texts(); break;
            case 3: deedsYears(); break;
            case 4: best(); break;
            case 5: told(); break;
            default: host(); break;
        }
    }

    private void lawsDeedsPeople() {
        int a = pick(8);
        switch (random.nextInt(5)) {
            case 0: case 1: {
                int of = a == 0 ? pick(8) : a < 5 ? pick(10) : pick(4);
                int[] bounds = {4, 6, 1000, 256, 100, 10, 4, 100};
                int v = random.nextInt(8) == 0 ? pick(101) : pick(a >= 0 && a < 8 ? bounds[a] : 5);
                due("set(" + a + ", " + of + ", " + v + ")", x.set(a, of, v), model.set(a, of, v));
                break;
            }
            case 2: {
                int kind = pick(6);
                int number = pick(10);
                due("person(" + kind + ", " + number + ")", x.person(kind, number), model.person(kind, number));
                break;
            }
            case 3: {
                int what = pick(13);
                int of = what >= 5 && what < 10 ? pick(4) : pick(10);
                due("told(" + of + ", " + what + ")", x.told(of, what), model.told(of, what));
                break;
            }
            default: {
                int one = pick(4);
                int deed = pick(10);
                int what = pick(3);
                due("asks(" + one + ", " + deed + ", " + what + ")", x.asks(one, deed, what), model.asks(one, deed, what));
                break;
            }
        }
    }

    private void texts() {
        switch (random.nextInt(6)) {
            case 0: {
                int letter = pick(256);
                due("feed(" + letter + ")", x.feed(letter), model.feed(letter));
                break;
            }
            case 1: due("text()", x.text(), model.text()); break;
            case 2: case 3: {
                int text = pick(6);
                due("force(" + text + ")", x.force(text), model.force(text));
                break;
            }
            default: write(random.nextInt(3) == 0 ? strewn(whole()) : whole()); break;
        }
    }

    private void write(String text) {
        if (random.nextInt(4) != 0) due("text()", x.text(), model.text());
        for (int i = 0; i < text.length() && wrong == 0; i++) {
            due("feed(" + (int) text.charAt(i) + ")", x.feed(text.charAt(i)), model.feed(text.charAt(i)));
        }
        if (wrong == 0) due("text() of " + text, x.text(), model.text());
    }

    private String whole() {
        return "dares " + any(random.nextInt(6)) + blank() + ";harms " + any(random.nextInt(5)) + ";" + blank() + "sits "
                + any(random.nextInt(4)) + ";" + blank();
    }

    private String blank() {
        return random.nextInt(3) == 0 ? " " : random.nextInt(6) == 0 ? "\n" : "";
    }

    private String any(int size) {
        int less = size - 1;
        if (size <= 0) return random.nextBoolean() ? NAMES[random.nextInt(6)] : String.valueOf(random.nextInt(30));
        switch (random.nextInt(12)) {
            case 0: return any(less) + " or " + any(less / 2);
            case 1: return any(less) + " and " + any(less / 2);
            case 2: return "not " + any(less);
            case 3: return any(less) + blank() + "<" + any(less / 2);
            case 4: return any(less / 2) + "=" + any(less / 2);
            case 5: return any(less) + "+" + blank() + any(less / 2);
            case 6: return any(less / 2) + "-" + any(less);
            case 7: return any(less / 2) + "*" + any(less);
            case 8: return "-" + any(less);
            case 9: case 10: return "(" + any(less) + blank() + ")";
            default: return String.valueOf(random.nextInt(10000));
        }
    }

    /** A text in which something stands where it should not, or is gone. */
    private String strewn(String text) {
        int at = random.nextInt(text.length());
        int gone = Math.min(text.length(), at + random.nextInt(3));
        return text.substring(0, at) + STRAY[random.nextInt(STRAY.length)] + text.substring(gone);
    }

    private void deedsYears() {
        int a = pick(4);
        int b = pick(10);
        switch (random.nextInt(6)) {
            case 0: case 1: due("does(" + a + ", " + b + ")", x.does(a, b), model.does(a, b)); break;
            case 2: due("year()", x.year(), model.year()); break;
            case 3: case 4: {
                int n = pick(21);
                int what = pick(3);
                due("run(" + n + ", " + what + ")", x.run(n, what), model.run(n, what));
                break;
            }
            default: {
                int law = pick(8);
                due("lasts(" + law + ")", x.lasts(law), model.lasts(law));
                break;
            }
        }
    }

    private void best() {
        switch (random.nextInt(9)) {
            case 0: {
                int set = pick(256) & (random.nextBoolean() ? -1 : 85);
                int what = pick(4);
                due("cover(" + set + ", " + what + ")", x.cover(set, what), model.cover(set, what));
                break;
            }
            case 1: {
                int what = pick(3);
                due("rota(" + what + ")", x.rota(what), model.rota(what));
                break;
            }
            case 2: case 3: case 4: {
                int n = random.nextInt(12);
                int what = pick(2);
                due("saves(" + n + ", " + what + ")", x.saves(n, what), model.saves(n, what));
                break;
            }
            case 5: case 6: {
                int what = pick(2);
                due("letGo(" + what + ")", x.letGo(what), model.letGo(what));
                break;
            }
            default: {
                int part = pick(2);
                due("share(" + part + ")", x.share(part), model.share(part));
                break;
            }
        }
    }

    private void told() {
        int sheet = pick(4);
        int one = pick(4);
        switch (random.nextInt(9)) {
            case 0: case 1: case 2: {
                due("film(" + sheet + ", " + one + ")", x.film(sheet, one), model.film(sheet, one));
                int by = pick(4);
                for (int what = -1; what < 10 && wrong == 0; what++) tells(sheet, by, what);
                break;
            }
            case 3: tells(sheet, one, pick(9)); break;
            case 4: case 5: {
                int seed = random.nextInt();
                int n = pick(21);
                due("drawn(" + seed + ", " + n + ")", x.drawn(seed, n), model.drawn(seed, n));
                break;
            }
            case 6: {
                int seed = random.nextInt(5) == 0 ? Integer.MAX_VALUE - 3 : random.nextInt();
                int m = pick(21);
                int k = pick(9);
                int part = pick(2);
                due("chance(" + seed + ", " + m + ", " + k + ", " + part + ")", x.chance(seed, m, k, part), model.chance(seed, m, k, part));
                break;
            }
            case 7: {
                if (random.nextInt(3) == 0) due("image()", x.image(), model.image());
                else due("back()", x.back(), model.back());
                break;
            }
            default: {
                int what = pick(6);
                due("count(" + what + ")", x.count(what), model.count(what));
                break;
            }
        }
    }

    private void tells(int sheet, int one, int what) {
        due("tells(" + sheet + ", " + one + ", " + what + ")", x.tells(sheet, one, what), model.tells(sheet, one, what));
    }

    private void host() {
        int sheet = pick(4);
        switch (random.nextInt(7)) {
            case 0: {
                int sort = random.nextInt(8) == 0 ? pick(5) - 1 : random.nextInt(3);
                int n = random.nextInt(3) == 0 ? pick(45) : pick(11);
                due("sheet(" + sheet + ", " + sort + ", " + n + ")", x.sheet(sheet, sort, n), model.sheet(sheet, sort, n));
                break;
            }
            case 1: case 2: case 3: {
                int i = pick(10);
                int v = random.nextInt(3) == 0 ? random.nextInt() : random.nextInt(12) - 1;
                due("cell(" + sheet + ", " + i + ", " + v + ")", x.cell(sheet, i, v), model.cell(sheet, i, v));
                break;
            }
            case 4: {
                int other = random.nextBoolean() ? sheet : pick(4);
                int i = pick(8);
                int j = pick(8);
                int n = pick(5);
                due("copy(" + sheet + ", " + i + ", " + other + ", " + j + ", " + n + ")", x.copy(sheet, i, other, j, n),
                        model.copy(sheet, i, other, j, n));
                break;
            }
            case 5: {
                int sort = pick(3);
                int from = pick(10);
                int n = pick(5);
                due("republic(" + sheet + ", " + sort + ", " + from + ", " + n + ")", x.republic(sheet, sort, from, n),
                        model.republic(sheet, sort, from, n));
                break;
            }
            default: {
                int one = pick(4);
                int k = pick(6);
                due("taken(" + one + ", " + k + ")", x.taken(one, k), model.taken(one, k));
                break;
            }
        }
    }
}
