import java.util.ArrayList;
import java.util.Arrays;
import java.util.HashSet;
import java.util.List;
import java.util.Map;
import java.util.Set;
import java.util.TreeSet;

/**
 * The document once more, told otherwise: sets for bits, trees for texts, all ways by force.
 * It may throw and may be slow; LawsLapse must answer as it does.
 */
final class Model {
    private static final int BAD = -2;
    private static final int STATE = -3;
    private static final int FULL = -4;
    private static final long NO = -4611686018427387904L;
    private static final String[] KINDS = {"CITIZEN", "POLICEMAN", "CLERK", "SPEAKER", "ANTIQUARY", "THIEF"};
    private static final Map<String, String> UNDER = Map.of(
            "POLICEMAN", "CITIZEN", "CLERK", "CITIZEN", "SPEAKER", "POLICEMAN", "ANTIQUARY", "CLERK", "THIEF", "CITIZEN");

    static final class Person {
        String kind;
        int number;
        int sits;
        int served;

        Person(String kind, int number) {
            this.kind = kind;
            this.number = number;
        }
    }

    static final class Deed {
        Set<Integer> breaks = new TreeSet<>();
        int harm = 10;
    }

    static final class World {
        int[] left = {2, 2, 2, 2, 2, 2, 2, 2};
        Set<Integer> broken = new TreeSet<>();
        int term = 2;
        int year;
        int cost;
        int rule;
        List<Deed> deeds = new ArrayList<>();
        List<Person> people = new ArrayList<>();

        World() {
            for (int i = 0; i < 10; i++) {
                Deed deed = new Deed();
                deed.breaks.add(i % 8);
                deeds.add(deed);
            }
        }

        World again() {
            World world = new World();
            world.left = left.clone();
            world.broken = new TreeSet<>(broken);
            world.term = term;
            world.year = year;
            world.cost = cost;
            world.rule = rule;
            world.deeds.clear();
            for (Deed deed : deeds) {
                Deed other = new Deed();
                other.breaks = new TreeSet<>(deed.breaks);
                other.harm = deed.harm;
                world.deeds.add(other);
            }
            for (Person one : people) {
                Person other = new Person(one.kind, one.number);
                other.sits = one.sits;
                other.served = one.served;
                world.people.add(other);
            }
            return world;
        }

        Set<Integer> alive() {
            Set<Integer> laws = new TreeSet<>();
            for (int law = 0; law < 8; law++) {
                if (left[law] != 0) laws.add(law);
            }
            return laws;
        }
    }

    interface Tree {
        int of(World world, Person one, Deed deed);
    }

    static final class Fault extends RuntimeException {
        private static final long serialVersionUID = 1L;
        final int place;

        Fault(int place) {
            this.place = place;
        }
    }

    private World world = new World();
    private World kept;
    private final List<Tree[]> texts = new ArrayList<>();
    private final StringBuilder tape = new StringBuilder();
    private final int[][] rows = new int[4][];
    private final int[] sorts = {-1, -1, -1, -1};

    Model() {
        texts.add(new Tree[] {(w, p, d) -> 1, (w, p, d) -> d.harm, (w, p, d) -> 1});
    }

    // ---- reading

    static final class Reading {
        private static final Set<String> NAMES = Set.of("harm", "laws", "number", "year", "served", "alive");
        private static final Set<String> KEYS = Set.of("dares", "harms", "sits", "or", "and", "not");
        private final String text;
        private int at;

        Reading(String text) {
            this.text = text;
        }

        Tree[] whole() {
            Tree[] parts = new Tree[3];
            String[] keys = {"dares", "harms", "sits"};
            for (int i = 0; i < 3; i++) {
                want(keys[i]);
                parts[i] = anyOf(0);
                want(";");
            }
            if (!peek().isEmpty()) throw new Fault(at);
            return parts;
        }

        private String peek() {
            while (at < text.length() && (text.charAt(at) == ' ' || text.charAt(at) == '\n')) at++;
            if (at == text.length()) return "";
            String rest = text.substring(at);
            String word = rest.replaceFirst("(?s)[^a-z].*", "");
            if (!word.isEmpty()) {
                if (NAMES.contains(word) || KEYS.contains(word)) return word;
                throw new Fault(at);
            }
            String number = rest.replaceFirst("(?s)[^0-9].*", "");
            if (number.length() > 4) throw new Fault(at);
            if (!number.isEmpty()) return number;
            String sign = rest.substring(0, 1);
            if ("();+-*<=".contains(sign)) return sign;
            throw new Fault(at);
        }

        private boolean take(String token) {
            if (!peek().equals(token)) return false;
            at += token.length();
            return true;
        }

        private void want(String token) {
            if (!take(token)) throw new Fault(at);
        }

        private void wantRoom(int open) {
            peek();
            if (open == 5) throw new Fault(at);
        }

        private static int bit(boolean b) {
            return b ? 1 : 0;
        }

        private Tree anyOf(int open) {
            Tree first = allOf(open);
            while (take("or")) {
                Tree a = first;
                Tree b = allOf(open);
                first = (w, p, d) -> bit(a.of(w, p, d) != 0 | b.of(w, p, d) != 0);
            }
            return first;
        }

        private Tree allOf(int open) {
            Tree first = not(open);
            while (take("and")) {
                Tree a = first;
                Tree b = not(open);
                first = (w, p, d) -> bit(a.of(w, p, d) != 0 & b.of(w, p, d) != 0);
            }
            return first;
        }

        private Tree not(int open) {
            if (peek().equals("not")) {
                wantRoom(open);
                take("not");
                Tree a = not(open + 1);
                return (w, p, d) -> bit(a.of(w, p, d) == 0);
            }
            Tree a = sum(open);
            if (take("<")) {
                Tree b = sum(open);
                return (w, p, d) -> bit(a.of(w, p, d) < b.of(w, p, d));
            }
            if (take("=")) {
                Tree b = sum(open);
                return (w, p, d) -> bit(a.of(w, p, d) == b.of(w, p, d));
            }
            return a;
        }

        private Tree sum(int open) {
            Tree first = term(open);
            while (true) {
                Tree a = first;
                if (take("+")) {
                    Tree b = term(open);
                    first = (w, p, d) -> a.of(w, p, d) + b.of(w, p, d);
                } else if (take("-")) {
                    Tree b = term(open);
                    first = (w, p, d) -> a.of(w, p, d) - b.of(w, p, d);
                } else {
                    return first;
                }
            }
        }

        private Tree term(int open) {
            Tree first = one(open);
            while (take("*")) {
                Tree a = first;
                Tree b = one(open);
                first = (w, p, d) -> a.of(w, p, d) * b.of(w, p, d);
            }
            return first;
        }

        private Tree one(int open) {
            String token = peek();
            if (token.equals("-")) {
                wantRoom(open);
                take("-");
                Tree a = one(open + 1);
                return (w, p, d) -> -a.of(w, p, d);
            }
            if (token.equals("(")) {
                wantRoom(open);
                take("(");
                Tree a = anyOf(open + 1);
                want(")");
                return a;
            }
            if (NAMES.contains(token)) {
                take(token);
                switch (token) {
                    case "harm": return (w, p, d) -> d.harm;
                    case "laws": return (w, p, d) -> d.breaks.size();
                    case "number": return (w, p, d) -> p.number;
                    case "year": return (w, p, d) -> w.year;
                    case "served": return (w, p, d) -> p.served;
                    default: return (w, p, d) -> w.alive().size();
                }
            }
            if (token.matches("[0-9]+")) {
                take(token);
                int worth = Integer.parseInt(token);
                return (w, p, d) -> worth;
            }
            throw new Fault(at);
        }
    }

    // ---- what one dares, costs, sits

    private static int bound(int v, int most) {
        return v < 0 ? 0 : v > most ? most : v;
    }

    private boolean dares(World w, Person p, Deed d) {
        return daresAs(p.kind, w, p, d);
    }

    private boolean daresAs(String kind, World w, Person p, Deed d) {
        boolean yes = bound(texts.get(w.rule)[0].of(w, p, d), 999) != 0;
        switch (kind) {
            case "CITIZEN": return yes;
            case "POLICEMAN": return yes || p.number < 8 && d.breaks.contains(p.number);
            case "CLERK": return yes && d.harm < 20;
            case "SPEAKER": return w.year % 2 == 1 ? daresAs("POLICEMAN", w, p, d) : yes;
            case "ANTIQUARY": {
                boolean old = !d.breaks.isEmpty();
                for (int law : d.breaks) old &= w.left[law] == 1;
                return old || daresAs("CLERK", w, p, d);
            }
            default: {
                Set<Integer> some = new TreeSet<>(d.breaks);
                some.retainAll(w.alive());
                return some.isEmpty() || yes;
            }
        }
    }

    private int costs(World w, Person p, Deed d) {
        return bound(costsAs(p.kind, w, p, d), 999);
    }

    private int costsAs(String kind, World w, Person p, Deed d) {
        switch (kind) {
            case "CITIZEN": return bound(texts.get(w.rule)[1].of(w, p, d), 999);
            case "POLICEMAN": return costsAs("CITIZEN", w, p, d) / 2;
            case "CLERK": return Math.max(0, costsAs("CITIZEN", w, p, d) - p.number);
            case "SPEAKER": return costsAs("POLICEMAN", w, p, d) + 5;
            case "ANTIQUARY": return costsAs("CLERK", w, p, d) + d.breaks.size();
            default: return 2 * costsAs("CITIZEN", w, p, d);
        }
    }

    private int sits(World w, Person p, Deed d) {
        return bound(sitsAs(p.kind, w, p, d), 99);
    }

    private int sitsAs(String kind, World w, Person p, Deed d) {
        switch (kind) {
            case "CITIZEN": return bound(texts.get(w.rule)[2].of(w, p, d), 99);
            case "POLICEMAN": return 0;
            case "CLERK": return Math.min(3, sitsAs("CITIZEN", w, p, d));
            case "SPEAKER": return p.number < 5 ? 1 : 0;
            case "ANTIQUARY": return 2 * sitsAs("CLERK", w, p, d);
            default: return 1 + p.served;
        }
    }

    private boolean can(World w, Person p, Deed d) {
        return p.sits == 0 && dares(w, p, d);
    }

    private static Set<Integer> live(World w, Deed d) {
        Set<Integer> laws = new TreeSet<>(d.breaks);
        laws.retainAll(w.alive());
        return laws;
    }

    private void done(World w, Person p, Deed d) {
        int costs = costs(w, p, d);
        int sits = sits(w, p, d);
        w.broken.addAll(live(w, d));
        w.cost = Math.min(99999, w.cost + costs);
        p.sits = sits;
        p.served = Math.min(99, p.served + 1);
    }

    private static Set<Integer> over(World w) {
        Set<Integer> lapsed = new TreeSet<>();
        for (int law : w.alive()) {
            w.left[law] = w.broken.contains(law) ? w.term : w.left[law] - 1;
            if (w.left[law] == 0) lapsed.add(law);
        }
        w.broken.clear();
        for (Person p : w.people) {
            if (p.sits > 0) p.sits--;
        }
        w.year++;
        return lapsed;
    }

    private int years(World w, int n) {
        int deeds = 0;
        for (int i = 0; i < n; i++) {
            for (Person p : w.people) {
                for (Deed d : w.deeds) {
                    Set<Integer> fresh = live(w, d);
                    fresh.removeAll(w.broken);
                    if (!fresh.isEmpty() && can(w, p, d)) {
                        done(w, p, d);
                        deeds++;
                        break;
                    }
                }
            }
            over(w);
        }
        return deeds;
    }

    private static int bits(Set<Integer> set) {
        int bits = 0;
        for (int i : set) bits |= 1 << i;
        return bits;
    }

    private static Set<Integer> setOf(int bits) {
        Set<Integer> set = new TreeSet<>();
        for (int i = 0; i < 31; i++) {
            if ((bits >> i & 1) == 1) set.add(i);
        }
        return set;
    }

    private Person one(int i) {
        return i < 0 || i >= world.people.size() ? null : world.people.get(i);
    }

    private Deed deed(int i) {
        return i < 0 || i > 9 ? null : world.deeds.get(i);
    }

    // ---- the calls

    int set(int what, int of, int v) {
        if (what < 0 || what > 7) return BAD;
        int was = told(of, what);
        if (was == -1000) return BAD;
        int[] most = {9, 9, 999, 255, 99, 9, 99, 99};
        if (v < (what == 1 ? 1 : 0) || v > most[what]) return BAD;
        if (what == 0) {
            world.left[of] = v;
            world.broken.retainAll(world.alive());
        }
        if (what == 1) world.term = v;
        if (what == 2) world.year = v;
        if (what == 3) world.deeds.get(of).breaks = setOf(v);
        if (what == 4) world.deeds.get(of).harm = v;
        if (what == 5) world.people.get(of).number = v;
        if (what == 6) world.people.get(of).sits = v;
        if (what == 7) world.people.get(of).served = v;
        return was;
    }

    int person(int kind, int number) {
        if (kind < 0 || kind > 5 || number < 0 || number > 9) return BAD;
        if (world.people.size() == 4) return FULL;
        world.people.add(new Person(KINDS[kind], number));
        return world.people.size() - 1;
    }

    int told(int of, int what) {
        if (what == 1) return world.term;
        if (what == 2) return world.year;
        if (what == 10) return bits(world.alive());
        if (what == 11) return bits(world.broken);
        if (what == 12) return world.cost;
        if (what == 0) return of < 0 || of > 7 ? -1000 : world.left[of];
        if (what == 3) return deed(of) == null ? -1000 : bits(deed(of).breaks);
        if (what == 4) return deed(of) == null ? -1000 : deed(of).harm;
        if (what < 5 || what > 9 || one(of) == null) return -1000;
        Person p = one(of);
        if (what == 5) return p.number;
        if (what == 6) return p.sits;
        if (what == 7) return p.served;
        if (what == 8) return Arrays.asList(KINDS).indexOf(p.kind);
        return bits(able(p));
    }

    private Set<Integer> able(Person p) {
        Set<Integer> able = new TreeSet<>();
        for (int d = 0; d < 10; d++) {
            if (can(world, p, deed(d))) able.add(d);
        }
        return able;
    }

    int asks(int one, int deed, int what) {
        Person p = one(one);
        Deed d = deed(deed);
        if (p == null || d == null || what < 0 || what > 2) return BAD;
        return what == 0 ? (dares(world, p, d) ? 1 : 0) : what == 1 ? costs(world, p, d) : sits(world, p, d);
    }

    int feed(int letter) {
        if (letter < 0 || letter > 255) return BAD;
        if (tape.length() == 160) return FULL;
        return tape.append((char) letter).length();
    }

    int text() {
        if (texts.size() == 6) return FULL;
        String all = tape.toString();
        tape.setLength(0);
        try {
            texts.add(new Reading(all).whole());
            return texts.size() - 1;
        } catch (Fault fault) {
            return -100 - fault.place;
        }
    }

    int force(int text) {
        if (text < 0 || text >= texts.size()) return BAD;
        int was = world.rule;
        world.rule = text;
        return was;
    }

    int does(int one, int deed) {
        Person p = one(one);
        Deed d = deed(deed);
        if (p == null || d == null) return BAD;
        if (!can(world, p, d)) return STATE;
        done(world, p, d);
        return bits(world.broken);
    }

    int year() {
        return world.year == 999 ? STATE : bits(over(world));
    }

    int run(int n, int what) {
        if (n < 0 || n > 20 || what < 0 || what > 2) return BAD;
        World w = world.again();
        int deeds = years(w, n);
        return what == 0 ? bits(w.alive()) : what == 1 ? w.cost : deeds;
    }

    int lasts(int law) {
        if (law < 0 || law > 7) return BAD;
        for (int n = 0; n <= 40; n++) {
            World w = world.again();
            years(w, n);
            if (w.left[law] == 0) return n;
        }
        return -1;
    }

    int cover(int set, int what) {
        if (set < 0 || set > 255 || what < 0 || what > 3) return BAD;
        long[] best = null;
        int[] order = what < 2 ? new int[] {0, 1, 2} : new int[] {1, 0, 2};
        for (int bits = 0; bits < 1024; bits++) {
            Set<Integer> laws = new HashSet<>();
            long harm = 0;
            for (int d : setOf(bits)) {
                laws.addAll(deed(d).breaks);
                harm += deed(d).harm;
            }
            if (!laws.containsAll(setOf(set))) continue;
            long[] told = {harm, setOf(bits).size(), bits};
            if (best == null || ahead(told, best, order)) best = told;
        }
        if (best == null) return -1;
        return (int) (what == 1 ? best[0] : what == 3 ? best[1] : best[2]);
    }

    private static boolean ahead(long[] a, long[] b, int[] order) {
        for (int i : order) {
            if (a[i] != b[i]) return a[i] < b[i];
        }
        return false;
    }

    int rota(int what) {
        if (what < 0 || what > 2) return BAD;
        int people = world.people.size();
        List<Set<Integer>> able = new ArrayList<>();
        for (Person p : world.people) able.add(able(p));
        long[] best = null;
        int ways = (int) Math.pow(11, people);
        next:
        for (int way = 0; way < ways; way++) {
            Set<Integer> used = new HashSet<>();
            Set<Integer> laws = new HashSet<>(world.broken);
            int costs = 0;
            int rest = way;
            for (int i = people - 1; i >= 0; i--) {
                int d = rest % 11 - 1;
                rest /= 11;
                if (d < 0) continue;
                if (!used.add(d) || !able.get(i).contains(d)) continue next;
                laws.addAll(live(world, deed(d)));
                costs += costs(world, one(i), deed(d));
            }
            long[] told = {-laws.size(), costs, way};
            if (best == null || ahead(told, best, new int[] {0, 1, 2})) best = told;
        }
        return (int) (what == 0 ? best[2] : what == 1 ? -best[0] : best[1]);
    }

    int saves(int n, int what) {
        if (n < 1 || n > 10 || what < 0 || what > 1) return BAD;
        World plain = world.again();
        years(plain, n);
        int most = plain.alive().size();
        int saver = -1;
        for (int d = 0; d < 10; d++) {
            World w = world.again();
            w.broken.addAll(live(w, w.deeds.get(d)));
            years(w, n);
            if (w.alive().size() > most) {
                most = w.alive().size();
                saver = d;
            }
        }
        return what == 0 ? saver : most;
    }

    int letGo(int what) {
        if (what < 0 || what > 1) return BAD;
        int found = -1;
        int most = -1;
        for (int law : world.alive()) {
            int least = 1000;
            for (Deed d : world.deeds) {
                if (d.breaks.contains(law)) least = Math.min(least, d.harm);
            }
            if (least > most) {
                most = least;
                found = law;
            }
        }
        return what == 0 ? found : most;
    }

    private static long lowest(int above, int below, int part) {
        for (int by = below; by > 1; by--) {
            if (above % by == 0 && below % by == 0) return part == 0 ? above / by : below / by;
        }
        return part == 0 ? above : below;
    }

    long share(int part) {
        if (part < 0 || part > 1 || world.alive().isEmpty()) return NO;
        return lowest(world.broken.size(), world.alive().size(), part);
    }

    private int otherwise(World w, int[] told, int one) {
        for (int d = 0; d < told.length; d++) {
            int is = dares(w, w.people.get(one), w.deeds.get(d)) ? costs(w, w.people.get(one), w.deeds.get(d)) : -1;
            if (is != told[d]) return d;
        }
        return -1;
    }

    int tells(int sheet, int one, int what) {
        if (sheet < 0 || sheet > 3 || one(one) == null || what < 0 || what > 8) return BAD;
        int[] told = rows[sheet];
        if (told == null) return -11;
        if (told.length > 10) return BAD;
        if (what == 0) return otherwise(world, told, one);
        Set<Integer> fits = new TreeSet<>();
        int[] bounds = {0, 6, 10, 100, 100, 100, 100, texts.size(), world.people.size()};
        for (int v = 0; v < bounds[what]; v++) {
            World w = world.again();
            int whom = one;
            if (what == 1) w.people.get(one).kind = KINDS[v];
            if (what == 2) w.people.get(one).number = v;
            if (what == 3 || what == 4) w.year = v;
            if (what == 5 || what == 6) w.people.get(one).served = v;
            if (what == 7) w.rule = v;
            if (what == 8) whom = v;
            if (otherwise(w, told, whom) == -1) fits.add(v);
        }
        if (what == 3 || what == 5) return fits.size();
        if (what == 4 || what == 6) return fits.isEmpty() ? -1 : fits.iterator().next();
        return bits(fits);
    }

    int film(int sheet, int one) {
        if (sheet < 0 || sheet > 3 || one(one) == null) return BAD;
        rows[sheet] = new int[10];
        sorts[sheet] = 1;
        int dared = 0;
        for (int d = 0; d < 10; d++) {
            boolean dares = dares(world, one(one), deed(d));
            rows[sheet][d] = dares ? costs(world, one(one), deed(d)) : -1;
            dared += dares ? 1 : 0;
        }
        return dared;
    }

    int drawn(int seed, int n) {
        if (n < 0 || n > 20) return BAD;
        World w = world.again();
        int y = seed;
        for (int i = 0; i < n; i++) {
            int z = y * 1103515245 + 12345;
            y = z * 1103515245 + 12345;
            int who = (z >>> 9) % 8;
            if (who < w.people.size()) {
                Person p = w.people.get(who);
                Deed d = w.deeds.get((y >>> 9) % 10);
                if (can(w, p, d)) done(w, p, d);
            }
            over(w);
        }
        return w.alive().size();
    }

    long chance(int seed, int m, int k, int part) {
        if (m < 1 || m > 20 || k < 0 || k > 8 || part < 0 || part > 1) return NO;
        int above = 0;
        for (int i = 0; i < m; i++) {
            if (drawn(seed + i, 6) >= k) above++;
        }
        return lowest(above, m, part);
    }

    int image() {
        kept = world.again();
        return world.people.size();
    }

    int back() {
        if (kept == null) return STATE;
        world = kept.again();
        return world.people.size();
    }

    int count(int what) {
        int[] counts = {world.people.size(), world.alive().size(), world.year, texts.size(), tape.length(), world.rule};
        return what < 0 || what > 5 ? BAD : counts[what];
    }

    int sheet(int sheet, int sort, int n) {
        if (sheet < 0 || sheet > 3 || sort < -1 || sort > 2) return BAD;
        if (sort != -1 && n > 40) return BAD;
        if (sort != -1 && n < 0) return -14;
        sorts[sheet] = sort;
        rows[sheet] = sort == -1 ? null : new int[n];
        return 1;
    }

    private static int kept(int sort, int v) {
        return sort == 0 ? (byte) v : sort == 1 ? (short) v : v;
    }

    int cell(int sheet, int i, int v) {
        if (sheet < 0 || sheet > 3) return BAD;
        if (rows[sheet] == null) return -11;
        if (i < 0 || i >= rows[sheet].length) return -12;
        rows[sheet][i] = kept(sorts[sheet], v);
        return 1;
    }

    int copy(int sheet, int i, int other, int j, int n) {
        if (sheet < 0 || sheet > 3 || other < 0 || other > 3) return BAD;
        if (rows[sheet] == null || rows[other] == null) return -11;
        if (sorts[sheet] != sorts[other]) return -13;
        long to = (long) i + n;
        if (i < 0 || j < 0 || n < 0 || to > rows[sheet].length || (long) j + n > rows[other].length) return -12;
        int[] were = Arrays.copyOfRange(rows[sheet], i, (int) to);
        for (int k = 0; k < n; k++) rows[other][j + k] = were[k];
        return n;
    }

    int republic(int sheet, int sort, int from, int n) {
        if (sheet < 0 || sheet > 3 || sort < 0 || sort > 2 || n < 0 || n > 4) return BAD;
        if (rows[sheet] == null) return -11;
        if (sorts[sheet] != sort) return -13;
        int came = 0;
        for (long at = from; at < (long) from + 2L * n; at += 2) {
            if (at < 0 || at + 1 >= rows[sheet].length) return -12;
            if (person(rows[sheet][(int) at], rows[sheet][(int) at + 1]) >= 0) came++;
        }
        return came;
    }

    int taken(int one, int k) {
        if (k < 0 || k > 5) return BAD;
        if (one(one) == null) return -11;
        for (String kind = one(one).kind; kind != null; kind = UNDER.get(kind)) {
            if (kind.equals(KINDS[k])) return one(one).number;
        }
        return -13;
    }
}
