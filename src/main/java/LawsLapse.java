/** A republic whose laws lapse if nobody breaks them; ../shared/DOC.md says what each call must do. */
public final class LawsLapse {
    public static final int NONE = -1, BAD = -2, STATE = -3, FULL = -4;
    public static final long NO = -4611686018427387904L;

    private static final int MISSING = -11, OUTSIDE = -12, OTHER_SORT = -13, BELOW_ZERO = -14;
    private static final int NONE_SUCH = -1000, FAULT = -100;

    private static final int LAWS = 8, ALL_LAWS = 255, DEEDS = 10, SETS_OF_DEEDS = 1024;
    private static final int MOST_PEOPLE = 4, MOST_TEXTS = 6, MOST_BYTES = 160, MOST_OPEN = 5;
    private static final int MOST_NUMBER = 9, LAST_YEAR = 999, LATEST_LAPSE = 40, YEARS_OF_CHANCE = 6;
    private static final int MOST_SERVED = 99, MOST_SITS = 99, MOST_COSTS = 999, MOST_COST = 99999;
    private static final int LET_GO_FREELY = 1000, TOLD_VALUES = 100;
    private static final int SHEETS = 4, MOST_CELLS = 40, BYTES = 0, SHORTS = 1, INTS = 2;

    private static final int CITIZEN = 0, POLICEMAN = 1, CLERK = 2, SPEAKER = 3, ANTIQUARY = 4, THIEF = 5;
    private static final int KINDS = 6;
    private static final int[] PARENT = {NONE, CITIZEN, CITIZEN, POLICEMAN, CLERK, CITIZEN};

    /** The numbers by which set() and told() name these; those of set() index the bounds below, too. */
    private static final int LEFT = 0, TERM = 1, YEAR = 2, BREAKS = 3, HARM = 4, NUMBER = 5, SITS = 6, SERVED = 7;
    private static final int KIND = 8, CAN_DO = 9, ALIVE = 10, BROKEN = 11, COST = 12;
    private static final int[] LOWEST = {0, 1, 0, 0, 0, 0, 0, 0};
    private static final int[] HIGHEST = {9, 9, LAST_YEAR, ALL_LAWS, 99, MOST_NUMBER, MOST_SITS, MOST_SERVED};
    /** No set() does this one: it is what else tells() varies. */
    private static final int RULE = 13;

    /** Numbered as a TEXT has them, since Tape reads them in that order. */
    private static final int PART_DARES = 0, PART_HARMS = 1, PART_SITS = 2, PARTS = 3;
    /** By parts; the other bound is 0 for all. */
    private static final int[] MOST_TOLD = {999, MOST_COSTS, MOST_SITS};

    /** Tokens begin above the greatest NUMBER, so that an int below NAME_HARM can be that NUMBER itself. */
    private static final int NAME_HARM = 10000, NAME_LAWS = 10001, NAME_NUMBER = 10002;
    private static final int NAME_YEAR = 10003, NAME_SERVED = 10004, NAME_ALIVE = 10005;
    private static final int OR = 10006, AND = 10007, LESS = 10008, SAME = 10009;
    private static final int PLUS = 10010, MINUS = 10011, TIMES = 10012, NOT = 10013, NEGATE = 10014;
    private static final int KEY_DARES = 10015, KEY_HARMS = 10016, KEY_SITS = 10017;
    private static final int OPEN = 10018, CLOSE = 10019, SEMICOLON = 10020, END = 10021, WRONG = 10022;

    private final Texts texts = new Texts();
    private final Tape tape = new Tape();
    private final Republic now = new Republic(texts);
    private final Republic thought = new Republic(texts);
    private final Republic kept = new Republic(texts);
    private boolean isKept;
    private final Rota best = new Rota();
    private final Sheet[] sheets = {new Sheet(), new Sheet(), new Sheet(), new Sheet()};

    public LawsLapse() {
    }

    // ---- laws, deeds, people

    public int set(int what, int of, int v) {
        if (!within(what, LEFT, SERVED) || !stands(of, what)) return BAD;
        if (!within(v, LOWEST[what], HIGHEST[what])) return BAD;
        int was = now.valueOf(of, what);
        now.put(of, what, v);
        return was;
    }

    public int person(int kind, int number) {
        if (!within(kind, 0, KINDS - 1) || !within(number, 0, MOST_NUMBER)) return BAD;
        if (now.people >= MOST_PEOPLE) return FULL;
        return now.add(kind, number);
    }

    public int told(int of, int what) {
        return stands(of, what) ? now.valueOf(of, what) : NONE_SUCH;
    }

    public int asks(int one, int deed, int what) {
        if (!isOne(one) || !isDeed(deed)) return BAD;
        switch (what) {
            case 0: return now.dares(one, deed) ? 1 : 0;
            case 1: return now.costs(one, deed);
            case 2: return now.yearsFor(one, deed);
            default: return BAD;
        }
    }

    // ---- texts

    public int feed(int letter) {
        if (!within(letter, 0, 255)) return BAD;
        if (tape.size >= MOST_BYTES) return FULL;
        tape.add(letter);
        return tape.size;
    }

    public int text() {
        int number = texts.size;
        if (number >= MOST_TEXTS) return FULL;
        boolean reads = tape.reads(texts.code[number], texts.ends[number]);
        tape.size = 0;
        if (!reads) return FAULT - tape.place;
        texts.size++;
        return number;
    }

    public int force(int text) {
        if (!within(text, 0, texts.size - 1)) return BAD;
        int was = now.rule;
        now.rule = text;
        return was;
    }

    // ---- deeds, years

    public int does(int one, int deed) {
        if (!isOne(one) || !isDeed(deed)) return BAD;
        if (!now.can(one, deed)) return STATE;
        now.commit(one, deed);
        return now.broken;
    }

    public int year() {
        return now.year >= LAST_YEAR ? STATE : now.endYear();
    }

    public int run(int n, int what) {
        if (!within(n, 0, 20) || !within(what, 0, 2)) return BAD;
        thought.takeFrom(now);
        int deeds = thought.passYears(n);
        switch (what) {
            case 0: return thought.alive;
            case 1: return thought.cost;
            default: return deeds;
        }
    }

    public int lasts(int law) {
        if (!isLaw(law)) return BAD;
        thought.takeFrom(now);
        for (int years = 0; years <= LATEST_LAPSE; years++) {
            if (thought.left[law] == 0) return years;
            thought.passYears(1);
        }
        return NONE;
    }

    // ---- what would be best

    public int cover(int set, int what) {
        if (!within(set, 0, ALL_LAWS) || !within(what, 0, 3)) return BAD;
        int deeds = now.leastCover(set, what < 2);
        if (deeds == NONE) return NONE;
        switch (what) {
            case 1: return now.harmOf(deeds);
            case 3: return Integer.bitCount(deeds);
            default: return deeds;
        }
    }

    public int rota(int what) {
        if (!within(what, 0, 2)) return BAD;
        best.seek(now);
        switch (what) {
            case 0: return best.way;
            case 1: return best.laws;
            default: return best.costs;
        }
    }

    public int saves(int n, int what) {
        if (!within(n, 1, 10) || !within(what, 0, 1)) return BAD;
        int saver = NONE;
        int most = aliveBehind(n, NONE);
        for (int deed = 0; deed < DEEDS; deed++) {
            int alive = aliveBehind(n, deed);
            if (alive > most) {
                most = alive;
                saver = deed;
            }
        }
        return what == 0 ? saver : most;
    }

    public int letGo(int what) {
        if (!within(what, 0, 1)) return BAD;
        int dearest = NONE;
        int greatest = NONE;
        for (int law = 0; law < LAWS; law++) {
            int least = now.leastHarm(law);
            if (now.left[law] > 0 && least > greatest) {
                greatest = least;
                dearest = law;
            }
        }
        return what == 0 ? dearest : greatest;
    }

    public long share(int part) {
        return fraction(Integer.bitCount(now.broken), Integer.bitCount(now.alive), part);
    }

    // ---- what was told of deeds

    public int tells(int sheet, int one, int what) {
        Sheet told = sheetAt(sheet);
        if (told == null || !isOne(one) || !within(what, 0, 8)) return BAD;
        if (told.sort == NONE) return MISSING;
        if (told.size > DEEDS) return BAD;
        thought.takeFrom(now);
        switch (what) {
            case 0: return now.firstOtherwise(told, one);
            case 1: return fittingBits(told, one, KIND, KINDS);
            case 2: return fittingBits(told, one, NUMBER, MOST_NUMBER + 1);
            case 3: return howManyFit(told, one, YEAR);
            case 4: return leastFitting(told, one, YEAR);
            case 5: return howManyFit(told, one, SERVED);
            case 6: return leastFitting(told, one, SERVED);
            case 7: return fittingBits(told, one, RULE, texts.size);
            default: return fittingPeople(told);
        }
    }

    public int film(int sheet, int one) {
        Sheet taker = sheetAt(sheet);
        if (taker == null || !isOne(one)) return BAD;
        taker.become(SHORTS, DEEDS);
        int dared = 0;
        for (int deed = 0; deed < DEEDS; deed++) {
            int told = now.costsOrNone(one, deed);
            taker.put(deed, told);
            if (told != NONE) dared++;
        }
        return dared;
    }

    public int drawn(int seed, int n) {
        return within(n, 0, 20) ? aliveByDraw(seed, n) : BAD;
    }

    public long chance(int seed, int m, int k, int part) {
        if (!within(m, 1, 20) || !within(k, 0, LAWS)) return NO;
        int enough = 0;
        for (int i = 0; i < m; i++) {
            if (aliveByDraw(seed + i, YEARS_OF_CHANCE) >= k) enough++;
        }
        return fraction(enough, m, part);
    }

    public int image() {
        kept.takeFrom(now);
        isKept = true;
        return now.people;
    }

    public int back() {
        if (!isKept) return STATE;
        now.takeFrom(kept);
        return now.people;
    }

    public int count(int what) {
        switch (what) {
            case 0: return now.people;
            case 1: return Integer.bitCount(now.alive);
            case 2: return now.year;
            case 3: return texts.size;
            case 4: return tape.size;
            case 5: return now.rule;
            default: return BAD;
        }
    }

    // ---- the host

    public int sheet(int sheet, int sort, int n) {
        Sheet row = sheetAt(sheet);
        if (row == null || !within(sort, NONE, INTS)) return BAD;
        if (sort == NONE) {
            row.become(NONE, 0);
            return 1;
        }
        if (n > MOST_CELLS) return BAD;
        if (n < 0) return BELOW_ZERO;
        row.become(sort, n);
        return 1;
    }

    public int cell(int sheet, int i, int v) {
        Sheet row = sheetAt(sheet);
        if (row == null) return BAD;
        if (row.sort == NONE) return MISSING;
        if (!row.has(i, 1)) return OUTSIDE;
        row.put(i, v);
        return 1;
    }

    public int copy(int sheet, int i, int other, int j, int n) {
        Sheet from = sheetAt(sheet);
        Sheet to = sheetAt(other);
        if (from == null || to == null) return BAD;
        if (from.sort == NONE || to.sort == NONE) return MISSING;
        if (from.sort != to.sort) return OTHER_SORT;
        if (!from.has(i, n) || !to.has(j, n)) return OUTSIDE;
        System.arraycopy(from.cells, i, to.cells, j, n);
        return n;
    }

    public int republic(int sheet, int sort, int from, int n) {
        Sheet row = sheetAt(sheet);
        if (row == null || !within(sort, BYTES, INTS) || !within(n, 0, MOST_PEOPLE)) return BAD;
        if (row.sort == NONE) return MISSING;
        if (row.sort != sort) return OTHER_SORT;
        int came = 0;
        for (int i = 0; i < n; i++) {
            int at = from + 2 * i;
            if (!row.has(at, 2)) return OUTSIDE;
            if (person(row.cells[at], row.cells[at + 1]) >= 0) came++;
        }
        return came;
    }

    public int taken(int one, int k) {
        if (!within(k, 0, KINDS - 1)) return BAD;
        if (!isOne(one)) return MISSING;
        int kind = now.kind[one];
        for (int above = 0; above < KINDS && kind != k && kind != NONE; above++) {
            kind = PARENT[kind];
        }
        return kind == k ? now.number[one] : OTHER_SORT;
    }

    // ---- what the calls above are made of

    private static boolean within(int v, int least, int most) {
        return v >= least && v <= most;
    }

    private static boolean isLaw(int law) {
        return within(law, 0, LAWS - 1);
    }

    private static boolean isDeed(int deed) {
        return within(deed, 0, DEEDS - 1);
    }

    private boolean isOne(int one) {
        return within(one, 0, now.people - 1);
    }

    private Sheet sheetAt(int sheet) {
        return within(sheet, 0, SHEETS - 1) ? sheets[sheet] : null;
    }

    /** Some stand for the republic as a whole: of does not matter for these. */
    private boolean stands(int of, int what) {
        switch (what) {
            case LEFT: return isLaw(of);
            case BREAKS: case HARM: return isDeed(of);
            case NUMBER: case SITS: case SERVED: case KIND: case CAN_DO: return isOne(of);
            case TERM: case YEAR: case ALIVE: case BROKEN: case COST: return true;
            default: return false;
        }
    }

    /** The DEED may be NONE, so that what would be without any is told in the same way. */
    private int aliveBehind(int n, int deed) {
        thought.takeFrom(now);
        if (deed != NONE) thought.breakBy(deed);
        thought.passYears(n);
        return Integer.bitCount(thought.alive);
    }

    private int aliveByDraw(int seed, int n) {
        thought.takeFrom(now);
        thought.drawYears(seed, n);
        return Integer.bitCount(thought.alive);
    }

    /** Varied in thought alone, which each question of tells() takes anew: so nothing need be put back. */
    private int fittingBits(Sheet told, int one, int varied, int bound) {
        int fitting = 0;
        for (int value = 0; value < bound; value++) {
            thought.put(one, varied, value);
            if (thought.firstOtherwise(told, one) == NONE) fitting |= 1 << value;
        }
        return fitting;
    }

    private int howManyFit(Sheet told, int one, int varied) {
        int fitting = 0;
        for (int value = 0; value < TOLD_VALUES; value++) {
            thought.put(one, varied, value);
            if (thought.firstOtherwise(told, one) == NONE) fitting++;
        }
        return fitting;
    }

    private int leastFitting(Sheet told, int one, int varied) {
        for (int value = 0; value < TOLD_VALUES; value++) {
            thought.put(one, varied, value);
            if (thought.firstOtherwise(told, one) == NONE) return value;
        }
        return NONE;
    }

    private int fittingPeople(Sheet told) {
        int fitting = 0;
        for (int one = 0; one < now.people; one++) {
            if (now.firstOtherwise(told, one) == NONE) fitting |= 1 << one;
        }
        return fitting;
    }

    private static long fraction(int above, int below, int part) {
        if (below == 0 || !within(part, 0, 1)) return NO;
        int common = commonDivisor(above, below);
        if (common == 0) return NO;
        return part == 0 ? above / common : below / common;
    }

    private static int commonDivisor(int one, int other) {
        for (int step = 0; step < 100 && other != 0; step++) {
            int rest = one % other;
            one = other;
            other = rest;
        }
        return one;
    }

    /** One class for what is now, what is thought and what an IMAGE keeps, so that each is had by one copy. */
    private static final class Republic {
        private final Texts texts;
        private final int[] left = {2, 2, 2, 2, 2, 2, 2, 2};
        /** The LAWS with years LEFT, as bits: kept beside them, since it is asked so often. */
        private int alive = ALL_LAWS;
        private int broken;
        private int term = 2;
        private int year;
        private int cost;
        private final int[] breaks = new int[DEEDS];
        private final int[] harm = new int[DEEDS];
        private int people;
        private final int[] kind = new int[MOST_PEOPLE];
        private final int[] number = new int[MOST_PEOPLE];
        private final int[] sits = new int[MOST_PEOPLE];
        private final int[] served = new int[MOST_PEOPLE];
        private int rule;

        private Republic(Texts texts) {
            this.texts = texts;
            for (int deed = 0; deed < DEEDS; deed++) {
                breaks[deed] = 1 << (deed % LAWS);
                harm[deed] = 10;
            }
        }

        private void takeFrom(Republic other) {
            System.arraycopy(other.left, 0, left, 0, LAWS);
            alive = other.alive;
            broken = other.broken;
            term = other.term;
            year = other.year;
            cost = other.cost;
            System.arraycopy(other.breaks, 0, breaks, 0, DEEDS);
            System.arraycopy(other.harm, 0, harm, 0, DEEDS);
            people = other.people;
            System.arraycopy(other.kind, 0, kind, 0, MOST_PEOPLE);
            System.arraycopy(other.number, 0, number, 0, MOST_PEOPLE);
            System.arraycopy(other.sits, 0, sits, 0, MOST_PEOPLE);
            System.arraycopy(other.served, 0, served, 0, MOST_PEOPLE);
            rule = other.rule;
        }

        private int valueOf(int of, int what) {
            switch (what) {
                case LEFT: return left[of];
                case TERM: return term;
                case YEAR: return year;
                case BREAKS: return breaks[of];
                case HARM: return harm[of];
                case NUMBER: return number[of];
                case SITS: return sits[of];
                case SERVED: return served[of];
                case KIND: return kind[of];
                case CAN_DO: return deedsFor(of);
                case ALIVE: return alive;
                case BROKEN: return broken;
                case COST: return cost;
                default: return NONE_SUCH;
            }
        }

        private void put(int of, int what, int v) {
            switch (what) {
                case LEFT: putLeft(of, v); break;
                case TERM: term = v; break;
                case YEAR: year = v; break;
                case BREAKS: breaks[of] = v; break;
                case HARM: harm[of] = v; break;
                case NUMBER: number[of] = v; break;
                case SITS: sits[of] = v; break;
                case SERVED: served[of] = v; break;
                case KIND: kind[of] = v; break;
                case RULE: rule = v; break;
                default: break;
            }
        }

        private void putLeft(int law, int years) {
            left[law] = years;
            if (years > 0) {
                alive |= 1 << law;
            } else {
                alive &= ~(1 << law);
                broken &= alive;
            }
        }

        private int add(int itsKind, int itsNumber) {
            int one = people;
            kind[one] = itsKind;
            number[one] = itsNumber;
            sits[one] = 0;
            served[one] = 0;
            people++;
            return one;
        }

        private boolean dares(int one, int deed) {
            boolean yes = texts.value(PART_DARES, this, one, deed) != 0;
            switch (kind[one]) {
                case POLICEMAN: return yes || breaksNumber(one, deed);
                case CLERK: return yes && harm[deed] < 20;
                case SPEAKER: return yes || year % 2 != 0 && breaksNumber(one, deed);
                case ANTIQUARY: return yes && harm[deed] < 20 || breaksOnlyLast(deed);
                case THIEF: return yes || (breaks[deed] & alive) == 0;
                default: return yes;
            }
        }

        private boolean breaksNumber(int one, int deed) {
            int law = number[one];
            return law < LAWS && (breaks[deed] & 1 << law) != 0;
        }

        /** A LAPSED LAW has no year LEFT, so it isn't one that has but 1. */
        private boolean breaksOnlyLast(int deed) {
            for (int law = 0; law < LAWS; law++) {
                if ((breaks[deed] & 1 << law) != 0 && left[law] != 1) return false;
            }
            return breaks[deed] != 0;
        }

        private int costs(int one, int deed) {
            int v = texts.value(PART_HARMS, this, one, deed);
            int asClerk = Math.max(0, v - number[one]);
            switch (kind[one]) {
                case POLICEMAN: return v / 2;
                case CLERK: return asClerk;
                case SPEAKER: return v / 2 + 5;
                case ANTIQUARY: return Math.min(MOST_COSTS, asClerk + Integer.bitCount(breaks[deed]));
                case THIEF: return Math.min(MOST_COSTS, 2 * v);
                default: return v;
            }
        }

        private int yearsFor(int one, int deed) {
            int v = texts.value(PART_SITS, this, one, deed);
            switch (kind[one]) {
                case POLICEMAN: return 0;
                case CLERK: return Math.min(3, v);
                case SPEAKER: return number[one] < 5 ? 1 : 0;
                case ANTIQUARY: return 2 * Math.min(3, v);
                case THIEF: return Math.min(MOST_SITS, 1 + served[one]);
                default: return v;
            }
        }

        private int costsOrNone(int one, int deed) {
            return dares(one, deed) ? costs(one, deed) : NONE;
        }

        private int firstOtherwise(Sheet told, int one) {
            for (int deed = 0; deed < told.size && deed < DEEDS; deed++) {
                if (told.cells[deed] != costsOrNone(one, deed)) return deed;
            }
            return NONE;
        }

        private boolean can(int one, int deed) {
            return sits[one] == 0 && dares(one, deed);
        }

        private int deedsFor(int one) {
            int able = 0;
            for (int deed = 0; deed < DEEDS; deed++) {
                if (can(one, deed)) able |= 1 << deed;
            }
            return able;
        }

        private void breakBy(int deed) {
            broken |= breaks[deed] & alive;
        }

        /** What it COSTS and for how long is told ahead, since both may hang on SERVED, which is 1 more then. */
        private void commit(int one, int deed) {
            int itsCosts = costs(one, deed);
            int itsYears = yearsFor(one, deed);
            breakBy(deed);
            cost = Math.min(MOST_COST, cost + itsCosts);
            sits[one] = itsYears;
            served[one] = Math.min(MOST_SERVED, served[one] + 1);
        }

        private int endYear() {
            int were = alive;
            for (int law = 0; law < LAWS; law++) {
                if ((broken & 1 << law) != 0) {
                    putLeft(law, term);
                } else if (left[law] > 0) {
                    putLeft(law, left[law] - 1);
                }
            }
            broken = 0;
            for (int one = 0; one < people; one++) {
                if (sits[one] > 0) sits[one]--;
            }
            year++;
            return were & ~alive;
        }

        private int passYears(int n) {
            int done = 0;
            for (int i = 0; i < n; i++) {
                for (int one = 0; one < people; one++) {
                    int deed = firstOfUse(one);
                    if (deed != NONE) {
                        commit(one, deed);
                        done++;
                    }
                }
                endYear();
            }
            return done;
        }

        /** What a DEED breaks is looked at ahead of whether one DARES it: that is dearer to tell. */
        private int firstOfUse(int one) {
            if (sits[one] > 0) return NONE;
            for (int deed = 0; deed < DEEDS; deed++) {
                if ((breaks[deed] & alive & ~broken) != 0 && dares(one, deed)) return deed;
            }
            return NONE;
        }

        private void drawYears(int seed, int n) {
            int z = seed;
            for (int i = 0; i < n; i++) {
                z = next(z);
                int one = (z >>> 9) % 8;
                z = next(z);
                int deed = (z >>> 9) % DEEDS;
                if (one < people && can(one, deed)) commit(one, deed);
                endYear();
            }
        }

        private static int next(int z) {
            return z * 1103515245 + 12345;
        }

        private int harmOf(int deeds) {
            int sum = 0;
            for (int deed = 0; deed < DEEDS; deed++) {
                if ((deeds & 1 << deed) != 0) sum += harm[deed];
            }
            return sum;
        }

        private int brokenBy(int deeds) {
            int laws = 0;
            for (int deed = 0; deed < DEEDS; deed++) {
                if ((deeds & 1 << deed) != 0) laws |= breaks[deed];
            }
            return laws;
        }

        /** HARM, together, stays below 1000, so one weight tells both; of like ones the first has the least bits. */
        private int leastCover(int laws, boolean byHarm) {
            int found = NONE;
            int least = 0;
            for (int deeds = 0; deeds < SETS_OF_DEEDS; deeds++) {
                if ((laws & ~brokenBy(deeds)) != 0) continue;
                int many = Integer.bitCount(deeds);
                int weight = byHarm ? harmOf(deeds) * 1000 + many : many * 1000 + harmOf(deeds);
                if (found == NONE || weight < least) {
                    found = deeds;
                    least = weight;
                }
            }
            return found;
        }

        private int leastHarm(int law) {
            int least = LET_GO_FREELY;
            for (int deed = 0; deed < DEEDS; deed++) {
                if ((breaks[deed] & 1 << law) != 0) least = Math.min(least, harm[deed]);
            }
            return least;
        }
    }

    /** The ways come in their order, so that of like ones the first is kept; what each needs is told once, ahead. */
    private static final class Rota {
        private final int[] able = new int[MOST_PEOPLE];
        private final int[] breaks = new int[DEEDS];
        /** One's row behind another's, made with the object, so that no search makes any. */
        private final int[] costsBy = new int[MOST_PEOPLE * DEEDS];
        private int people;
        private int way;
        private int laws;
        private int costs;

        private void seek(Republic of) {
            people = of.people;
            for (int deed = 0; deed < DEEDS; deed++) {
                breaks[deed] = of.breaks[deed] & of.alive;
            }
            for (int one = 0; one < people; one++) {
                able[one] = of.deedsFor(one);
                for (int deed = 0; deed < DEEDS; deed++) {
                    costsBy[one * DEEDS + deed] = of.costs(one, deed);
                }
            }
            laws = NONE;
            place(this, 0, 0, 0, of.broken, 0);
        }

        /** Static, since it calls itself; one's number is how deep it is, MOST_PEOPLE at most. */
        private static void place(Rota of, int one, int itsWay, int taken, int broken, int itsCosts) {
            if (one >= of.people || one >= MOST_PEOPLE) {
                of.weigh(itsWay, Integer.bitCount(broken), itsCosts);
                return;
            }
            int next = itsWay * (DEEDS + 1);
            place(of, one + 1, next, taken, broken, itsCosts);
            int free = of.able[one] & ~taken;
            for (int deed = 0; deed < DEEDS; deed++) {
                if ((free & 1 << deed) == 0) continue;
                int with = itsCosts + of.costsBy[one * DEEDS + deed];
                place(of, one + 1, next + deed + 1, taken | 1 << deed, broken | of.breaks[deed], with);
            }
        }

        private void weigh(int itsWay, int itsLaws, int itsCosts) {
            if (itsLaws < laws || itsLaws == laws && itsCosts >= costs) return;
            way = itsWay;
            laws = itsLaws;
            costs = itsCosts;
        }
    }

    /** TEXTS are kept with operands ahead of what joins them, so that to value one needs a stack and no recursion. */
    private static final class Texts {
        private final int[][] code = new int[MOST_TEXTS][MOST_BYTES];
        private final int[][] ends = new int[MOST_TEXTS][PARTS];
        private int size = 1;
        private final int[] stack = new int[MOST_BYTES];

        private Texts() {
            code[0][0] = 1;
            code[0][1] = NAME_HARM;
            code[0][2] = 1;
            ends[0][PART_DARES] = 1;
            ends[0][PART_HARMS] = 2;
            ends[0][PART_SITS] = 3;
        }

        private int value(int part, Republic of, int one, int deed) {
            int[] row = code[of.rule];
            int[] itsEnds = ends[of.rule];
            int top = 0;
            for (int i = part == 0 ? 0 : itsEnds[part - 1]; i < itsEnds[part]; i++) {
                int token = row[i];
                if (token <= NAME_ALIVE) {
                    if (top >= stack.length) return 0;
                    stack[top] = token < NAME_HARM ? token : fact(token, of, one, deed);
                    top++;
                } else if (token == NOT || token == NEGATE) {
                    if (top < 1) return 0;
                    int a = stack[top - 1];
                    stack[top - 1] = token == NEGATE ? -a : a == 0 ? 1 : 0;
                } else {
                    if (top < 2) return 0;
                    top--;
                    stack[top - 1] = joined(token, stack[top - 1], stack[top]);
                }
            }
            return Math.max(0, Math.min(MOST_TOLD[part], stack[0]));
        }

        private static int fact(int name, Republic of, int one, int deed) {
            switch (name) {
                case NAME_HARM: return of.harm[deed];
                case NAME_LAWS: return Integer.bitCount(of.breaks[deed]);
                case NAME_NUMBER: return of.number[one];
                case NAME_YEAR: return of.year;
                case NAME_SERVED: return of.served[one];
                default: return Integer.bitCount(of.alive);
            }
        }

        private static int joined(int sign, int a, int b) {
            switch (sign) {
                case OR: return a != 0 || b != 0 ? 1 : 0;
                case AND: return a != 0 && b != 0 ? 1 : 0;
                case LESS: return a < b ? 1 : 0;
                case SAME: return a == b ? 1 : 0;
                case PLUS: return a + b;
                case MINUS: return a - b;
                default: return a * b;
            }
        }
    }

    /** Token is what stands at place, and nothing is read ahead of it: so a FAULT is wherever reading stays. */
    private static final class Tape {
        private final int[] bytes = new int[MOST_BYTES];
        private int size;
        private int place;
        private int behind;
        private int token;
        private int[] code;
        private int written;

        private void add(int letter) {
            if (size >= MOST_BYTES) return;
            bytes[size] = letter;
            size++;
        }

        private boolean reads(int[] itsCode, int[] ends) {
            code = itsCode;
            written = 0;
            behind = 0;
            step();
            for (int part = 0; part < PARTS; part++) {
                if (token != KEY_DARES + part) return false;
                step();
                if (!either(0) || token != SEMICOLON) return false;
                step();
                ends[part] = written;
            }
            return token == END;
        }

        /** E. How many of ( not - are open is handed on: it bounds the recursion, too. */
        private boolean either(int open) {
            if (!both(open)) return false;
            for (int i = 0; i < MOST_BYTES && token == OR; i++) {
                step();
                if (!both(open)) return false;
                write(OR);
            }
            return true;
        }

        /** AND. */
        private boolean both(int open) {
            if (!negated(open)) return false;
            for (int i = 0; i < MOST_BYTES && token == AND; i++) {
                step();
                if (!negated(open)) return false;
                write(AND);
            }
            return true;
        }

        /** NOT: all that stand in a row are open till the last one's end. */
        private boolean negated(int open) {
            int nots = 0;
            for (; nots < MOST_BYTES && token == NOT; nots++) {
                if (open + nots >= MOST_OPEN) return false;
                step();
            }
            if (!compared(open + nots)) return false;
            for (int i = 0; i < nots; i++) {
                write(NOT);
            }
            return true;
        }

        /** SUM, perhaps < or = and a SUM. */
        private boolean compared(int open) {
            if (!sum(open)) return false;
            if (token != LESS && token != SAME) return true;
            int sign = token;
            step();
            if (!sum(open)) return false;
            write(sign);
            return true;
        }

        private boolean sum(int open) {
            if (!product(open)) return false;
            for (int i = 0; i < MOST_BYTES && (token == PLUS || token == MINUS); i++) {
                int sign = token;
                step();
                if (!product(open)) return false;
                write(sign);
            }
            return true;
        }

        /** TERM. */
        private boolean product(int open) {
            if (!single(open)) return false;
            for (int i = 0; i < MOST_BYTES && token == TIMES; i++) {
                step();
                if (!single(open)) return false;
                write(TIMES);
            }
            return true;
        }

        /** ONE: all - that stand in a row are open till its end. */
        private boolean single(int open) {
            int minuses = 0;
            for (; minuses < MOST_BYTES && token == MINUS; minuses++) {
                if (open + minuses >= MOST_OPEN) return false;
                step();
            }
            if (!bare(open + minuses)) return false;
            for (int i = 0; i < minuses; i++) {
                write(NEGATE);
            }
            return true;
        }

        /** A NUMBER, a NAME, or ( E ). */
        private boolean bare(int open) {
            if (token <= NAME_ALIVE) {
                write(token);
                step();
                return true;
            }
            if (token != OPEN || open >= MOST_OPEN) return false;
            step();
            if (!either(open + 1) || token != CLOSE) return false;
            step();
            return true;
        }

        private void write(int what) {
            if (code == null || written >= code.length) return;
            code[written] = what;
            written++;
        }

        private void step() {
            while (behind < size && (bytes[behind] == ' ' || bytes[behind] == '\n')) behind++;
            place = behind;
            if (place >= size) {
                token = END;
            } else if (isLetter(bytes[place])) {
                token = word();
            } else if (isDigit(bytes[place])) {
                token = digits();
            } else {
                behind++;
                token = signOf(bytes[place]);
            }
        }

        private static boolean isLetter(int letter) {
            return within(letter, 'a', 'z');
        }

        private static boolean isDigit(int letter) {
            return within(letter, '0', '9');
        }

        private int digits() {
            int worth = 0;
            while (behind < size && isDigit(bytes[behind])) {
                worth = worth * 10 + bytes[behind] - '0';
                behind++;
            }
            return behind - place > 4 ? WRONG : worth;
        }

        private int word() {
            while (behind < size && isLetter(bytes[behind])) behind++;
            if (spells("harm")) return NAME_HARM;
            if (spells("laws")) return NAME_LAWS;
            if (spells("number")) return NAME_NUMBER;
            if (spells("year")) return NAME_YEAR;
            if (spells("served")) return NAME_SERVED;
            if (spells("alive")) return NAME_ALIVE;
            if (spells("dares")) return KEY_DARES;
            if (spells("harms")) return KEY_HARMS;
            if (spells("sits")) return KEY_SITS;
            if (spells("or")) return OR;
            if (spells("and")) return AND;
            if (spells("not")) return NOT;
            return WRONG;
        }

        private boolean spells(String word) {
            int length = word.length();
            if (behind - place != length) return false;
            for (int i = 0; i < length; i++) {
                if (bytes[place + i] != word.charAt(i)) return false;
            }
            return true;
        }

        private static int signOf(int letter) {
            switch (letter) {
                case '(': return OPEN;
                case ')': return CLOSE;
                case ';': return SEMICOLON;
                case '+': return PLUS;
                case '-': return MINUS;
                case '*': return TIMES;
                case '<': return LESS;
                case '=': return SAME;
                default: return WRONG;
            }
        }
    }

    /** All sorts have ints as cells, put in as their sort would hold them: so one row serves for each. */
    private static final class Sheet {
        private int sort = NONE;
        private int size;
        private final int[] cells = new int[MOST_CELLS];

        private void become(int itsSort, int itsSize) {
            sort = itsSort;
            size = Math.max(0, Math.min(MOST_CELLS, itsSize));
            for (int i = 0; i < MOST_CELLS; i++) {
                cells[i] = 0;
            }
        }

        /** Told by what is left of size, since from + n could wrap. */
        private boolean has(int from, int n) {
            return from >= 0 && n >= 0 && from <= size && n <= size - from;
        }

        private void put(int i, int v) {
            if (!has(i, 1)) return;
            cells[i] = sort == BYTES ? (byte) v : sort == SHORTS ? (short) v : v;
        }
    }
}
