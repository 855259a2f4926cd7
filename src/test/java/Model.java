import java.util.ArrayDeque;
import java.util.ArrayList;
import java.util.Arrays;
import java.util.Deque;
import java.util.List;

/** The document once more, by trial of all cases and without thrift, to compare answers with. */
final class Model {
    private static final int NONE = -1, UNKNOWN = -1000000001, OUTSIDE = -1000000002, NOT = -1000000003, FULL = -1000000004;

    /** A text that is at fault: number and letter. */
    private static final class Fault extends RuntimeException {
        private static final long serialVersionUID = 1L;
        final int number;
        final int at;

        Fault(int number, int at) {
            this.number = number;
            this.at = at;
        }
    }

    /** A word, a NUMBER or the end, and where it begins. */
    private record Token(String text, int at) {
        boolean isNumber() {
            return !text.isEmpty() && Character.isDigit(text.charAt(0)) && text.charAt(0) < 128;
        }
    }

    private static final class Person {
        int kind, village, wit, from, fate, harm;
        boolean told, went;

        Person copy() {
            Person c = new Person();
            c.kind = kind;
            c.village = village;
            c.wit = wit;
            c.from = from;
            c.fate = fate;
            c.harm = harm;
            c.told = told;
            c.went = went;
            return c;
        }
    }

    /** Hills and section 2 in one, copied whole. */
    private static final class World {
        boolean there;
        int firstPatience, patience, step, owed, years;
        List<Integer> bear = new ArrayList<>();
        List<Person> persons = new ArrayList<>();

        World copy() {
            World c = new World();
            c.there = there;
            c.firstPatience = firstPatience;
            c.patience = patience;
            c.step = step;
            c.owed = owed;
            c.years = years;
            c.bear.addAll(bear);
            for (Person p : persons) c.persons.add(p.copy());
            return c;
        }
    }

    private StringBuilder text = new StringBuilder();
    private int faultAt = NONE;
    private World w = new World();
    private final Deque<World> past = new ArrayDeque<>();
    private final World[] images = new World[2];
    private final int[] imageSeeds = new int[2];
    private int seed = 0;
    private final List<int[]> returns = new ArrayList<>();
    private final List<int[]> book = new ArrayList<>();

    // ---- the text

    private static List<Token> tokens(String s) {
        List<Token> all = new ArrayList<>();
        int i = 0;
        while (i < s.length()) {
            int j = i + 1;
            if (s.charAt(i) >= '0' && s.charAt(i) <= '9') {
                while (j < s.length() && s.charAt(j) >= '0' && s.charAt(j) <= '9') j++;
            }
            if (s.charAt(i) != ' ') all.add(new Token(s.substring(i, j), i));
            i = j;
        }
        all.add(new Token("", s.length()));
        return all;
    }

    private static World parse(String s) {
        World world = new World();
        List<Token> tokens = tokens(s);
        int i = 0;
        while (!tokens.get(i).text().isEmpty()) {
            Token word = tokens.get(i++);
            boolean isWord = List.of("o", "v", "p").contains(word.text());
            if (!isWord || (!world.there && !word.text().equals("o"))) throw new Fault(1, word.at());
            if (word.text().equals("o") && world.there) throw new Fault(3, word.at());
            if (word.text().equals("v") && world.bear.size() == 4) throw new Fault(3, word.at());
            if (word.text().equals("p") && world.persons.size() == 7) throw new Fault(3, word.at());
            int count = word.text().equals("o") ? 2 : word.text().equals("v") ? 1 : 4;
            int[] n = new int[count];
            for (int k = 0; k < count; k++) n[k] = number(world, word.text(), k, tokens.get(i++));
            if (!tokens.get(i).text().equals(";")) throw new Fault(1, tokens.get(i).at());
            i++;
            add(world, word.text(), n);
        }
        for (Person p : world.persons) if (p.from >= world.persons.size()) p.from = NONE;
        return world;
    }

    private static int number(World world, String word, int k, Token t) {
        if (!t.isNumber()) throw new Fault(1, t.at());
        if (t.text().length() > 3) throw new Fault(2, t.at());
        int n = Integer.parseInt(t.text());
        boolean good = switch (word + k) {
            case "o0" -> 1 <= n && n <= 20;
            case "o1", "p2" -> 1 <= n && n <= 9;
            case "v0" -> n <= 99;
            case "p0" -> n <= 3;
            case "p1" -> n < world.bear.size();
            default -> n <= 6 || n == 9;
        };
        if (!good) throw new Fault(2, t.at());
        return n;
    }

    private static void add(World world, String word, int[] n) {
        if (word.equals("o")) {
            world.there = true;
            world.firstPatience = n[0];
            world.patience = n[0];
            world.step = n[1];
        } else if (word.equals("v")) {
            world.bear.add(n[0]);
        } else {
            Person p = new Person();
            p.kind = n[0];
            p.village = n[1];
            p.wit = n[2];
            p.from = n[3];
            world.persons.add(p);
        }
    }

    int feed(int letter) {
        if (letter < 0 || letter > 255) return OUTSIDE;
        if (text.length() == 240) return FULL;
        text.append((char) letter);
        return text.length();
    }

    int hills() {
        String s = text.toString();
        text = new StringBuilder();
        faultAt = NONE;
        try {
            w = parse(s);
        } catch (Fault f) {
            faultAt = f.at;
            return -10 - f.number;
        }
        past.clear();
        Arrays.fill(images, null);
        returns.clear();
        book.clear();
        return w.persons.size();
    }

    int fault() {
        return faultAt;
    }

    // ---- bargains and years, on any world

    /** What is left, and the turns of one. */
    private static int[] bargain(World world, Person by, int fate) {
        if (fate == 0) return new int[] {0, 0};
        int f = fate;
        int p = world.patience;
        int t = 0;
        while (true) {
            int off = by.wit;
            if (by.kind == 1) off += t;
            if (by.kind == 2 && t % 2 == 1) off = 0;
            if (by.kind == 3) off = 2 * by.wit + world.step / 2;
            f = f - off < 0 ? 0 : f - off;
            p--;
            if (p == 0 || f == 0) return new int[] {f, t + 1};
            if (t % 3 == 2) f = f + world.step > 99 ? 99 : f + world.step;
            t++;
        }
    }

    private static void answerBack(World world, int p, int q) {
        Person whose = world.persons.get(p);
        Person by = world.persons.get(q);
        int left = bargain(world, by, whose.fate)[0];
        if (left < whose.fate) world.owed = Math.min(9999, world.owed + whose.fate - left);
        whose.fate = left;
        by.went = true;
        if (world.patience > 1) world.patience--;
    }

    /** One year more: what each village took. */
    private static int[] yearOver(World world) {
        for (Person p : world.persons) {
            p.harm = Math.min(9999, p.harm + p.fate);
            p.fate = 0;
        }
        int[] took = new int[4];
        for (int v = 0; v < world.bear.size(); v++) {
            List<Person> of = new ArrayList<>();
            boolean untold = true;
            for (Person p : world.persons) {
                if (p.village != v) continue;
                of.add(p);
                untold = untold && !p.told;
            }
            if (of.isEmpty() || !untold) continue;
            took[v] = Math.min(world.bear.get(v), world.owed);
            for (Person p : of) p.harm = Math.min(9999, p.harm + took[v] / of.size());
            world.owed -= took[v];
        }
        for (Person p : world.persons) {
            p.told = false;
            p.went = false;
        }
        world.patience = world.firstPatience;
        world.years++;
        return took;
    }

    private int draw(int n) {
        seed = (int) Math.floorMod(seed * 1103515245L + 12345L, 1L << 31);
        return (seed / 65536) % n;
    }

    // ---- what is told

    private int set(java.util.function.Predicate<Person> which) {
        int set = 0;
        for (int p = 0; p < w.persons.size(); p++) if (which.test(w.persons.get(p))) set += 1 << p;
        return set;
    }

    private List<Integer> went() {
        List<Integer> fit = new ArrayList<>();
        if (!w.there) return fit;
        for (int set = 0; set < 1 << w.bear.size(); set++) {
            boolean fits = true;
            for (int[] r : returns) {
                int sum = 0;
                for (int v = 0; v < w.bear.size(); v++) if ((set & 1 << v) != 0) sum += r[v + 1];
                fits = fits && sum == r[0];
            }
            if (fits) fit.add(set);
        }
        return fit;
    }

    private int ask() {
        List<Integer> fit = went();
        int best = NONE;
        int least = Integer.MAX_VALUE;
        for (int v = 0; v < w.bear.size(); v++) {
            int in = 0;
            for (int set : fit) in += set >> v & 1;
            int out = fit.size() - in;
            if (in == 0 || out == 0) continue;
            if (Math.max(in, out) < least) {
                least = Math.max(in, out);
                best = v;
            }
        }
        return best;
    }

    private int madeUp() {
        World c = w.copy();
        for (int k = 0; k <= 60; k++) {
            if (c.owed == 0) return k;
            yearOver(c);
        }
        return NONE;
    }

    private int borne() {
        World c = w.copy();
        yearOver(c);
        return c.owed == 0 ? 1 : 0;
    }

    private int worst() {
        int worst = NONE;
        for (int p = 0; p < w.persons.size(); p++) {
            if (worst == NONE || w.persons.get(p).harm > w.persons.get(worst).harm) worst = p;
        }
        return worst;
    }

    int told(int what) {
        switch (what) {
            case 0: return w.patience;
            case 1: return w.step;
            case 2: return w.bear.size();
            case 3: return w.persons.size();
            case 4: return text.length();
            case 5: return w.years;
            case 6: return w.owed;
            case 7: return set(p -> p.fate > 0);
            case 8: return set(p -> !p.told);
            case 9: return set(p -> p.went);
            case 10: return borne();
            case 11: return madeUp();
            case 12: return worst();
            case 13: return returns.size();
            case 14: return went().size();
            case 15: return went().isEmpty() ? NONE : went().stream().reduce(15, (a, b) -> a & b);
            case 16: return ask();
            case 17: return book.size();
            case 18: return past.size();
            default: return OUTSIDE;
        }
    }

    private boolean isPerson(int p) {
        return p >= 0 && p < w.persons.size();
    }

    private boolean isVillage(int v) {
        return v >= 0 && v < w.bear.size();
    }

    private int rid(int p) {
        int rid = 0;
        for (int n = 0; n <= 99; n++) if (bargain(w, w.persons.get(p), n)[0] == 0) rid = n;
        return rid;
    }

    /** The persons that one comes by, itself first, until nobody or one seen already. */
    private List<Integer> way(int p) {
        List<Integer> way = new ArrayList<>();
        int x = p;
        while (x != NONE && !way.contains(x)) {
            way.add(x);
            x = w.persons.get(x).from;
        }
        way.add(x);
        return way;
    }

    int person(int p, int what) {
        if (!isPerson(p)) return UNKNOWN;
        Person one = w.persons.get(p);
        List<Integer> way = way(p);
        int last = way.get(way.size() - 1);
        switch (what) {
            case 0: return one.kind;
            case 1: return one.village;
            case 2: return one.wit;
            case 3: return one.from;
            case 4: return one.fate;
            case 5: return one.harm;
            case 6: return rid(p);
            case 7: return last == NONE ? NONE : way.size() - 1 - way.indexOf(last);
            case 8: return last == NONE ? way.get(way.size() - 2) : NONE;
            default: return OUTSIDE;
        }
    }

    int village(int v, int what) {
        if (!isVillage(v)) return UNKNOWN;
        switch (what) {
            case 0: return w.bear.get(v);
            case 1: return set(p -> p.village == v);
            case 2: return yearOver(w.copy())[v];
            case 3: return w.persons.stream().filter(p -> p.village == v).mapToInt(p -> p.harm).sum();
            default: return OUTSIDE;
        }
    }

    // ---- what is done

    private void remember() {
        past.addLast(w.copy());
        if (past.size() > 16) past.removeFirst();
    }

    int tell(int p, int n) {
        if (!isPerson(p)) return UNKNOWN;
        if (n < 0 || n > 99) return OUTSIDE;
        remember();
        int was = w.persons.get(p).fate;
        w.persons.get(p).fate = n;
        w.persons.get(p).told = true;
        return was;
    }

    int answer(int p, int q) {
        if (!isPerson(p) || !isPerson(q)) return UNKNOWN;
        if (w.persons.get(p).fate == 0 || w.persons.get(q).went) return NOT;
        remember();
        answerBack(w, p, q);
        return w.persons.get(p).fate;
    }

    int year(int n) {
        if (n < 1 || n > 60) return OUTSIDE;
        if (!w.there) return NOT;
        if (w.years > 9000) return FULL;
        remember();
        for (int i = 0; i < n; i++) yearOver(w);
        return w.owed;
    }

    int wit(int p, int wit) {
        if (!isPerson(p)) return UNKNOWN;
        if (wit < 1 || wit > 9) return OUTSIDE;
        remember();
        int was = w.persons.get(p).wit;
        w.persons.get(p).wit = wit;
        return was;
    }

    int bear(int v, int b) {
        if (!isVillage(v)) return UNKNOWN;
        if (b < 0 || b > 99) return OUTSIDE;
        remember();
        return w.bear.set(v, b);
    }

    int drift(int n) {
        if (n < 1 || n > 60) return OUTSIDE;
        if (!w.there) return NOT;
        if (w.years > 9000) return FULL;
        remember();
        for (int i = 0; i < n; i++) {
            if (!w.persons.isEmpty()) {
                int deed = draw(4);
                int p = draw(w.persons.size());
                int last = draw(100);
                Person one = w.persons.get(p);
                if (deed == 0 || deed == 1) {
                    one.fate = last;
                    one.told = true;
                }
                if (deed == 2 && one.fate > 0 && !one.went) answerBack(w, p, p);
                if (deed == 3) one.wit = last % 9 + 1;
            }
            yearOver(w);
        }
        return w.owed;
    }

    int undo() {
        if (past.isEmpty()) return NOT;
        w = past.removeLast();
        return past.size();
    }

    // ---- tried

    int down(int p, int n, int what) {
        if (!isPerson(p)) return UNKNOWN;
        if (n < 0 || n > 99 || (what != 0 && what != 1)) return OUTSIDE;
        return bargain(w, w.persons.get(p), n)[what];
    }

    int best(int n) {
        if (n < 0 || n > 99) return OUTSIDE;
        int best = NONE;
        for (int q = w.persons.size() - 1; q >= 0; q--) {
            if (w.persons.get(q).went) continue;
            if (best == NONE || bargain(w, w.persons.get(q), n)[0] <= bargain(w, w.persons.get(best), n)[0]) best = q;
        }
        return best;
    }

    private int[] bestGoers;
    private int bestTotal;

    /** Goes through all ways in the order in which the first of like ones is looked for. */
    private void tryGoers(int p, int[] goers, int total) {
        if (p == w.persons.size()) {
            if (total < bestTotal) {
                bestTotal = total;
                bestGoers = goers.clone();
            }
            return;
        }
        Person whose = w.persons.get(p);
        for (int q = 0; q < w.persons.size() && whose.fate > 0; q++) {
            if (w.persons.get(q).went) continue;
            boolean taken = false;
            for (int i = 0; i < p; i++) taken = taken || goers[i] == q;
            if (taken) continue;
            goers[p] = q;
            tryGoers(p + 1, goers, total + bargain(w, w.persons.get(q), whose.fate)[0]);
        }
        goers[p] = NONE;
        tryGoers(p + 1, goers, total + whose.fate);
    }

    int match(int p) {
        if (p != NONE && !isPerson(p)) return UNKNOWN;
        bestTotal = Integer.MAX_VALUE;
        tryGoers(0, new int[7], 0);
        return p == NONE ? bestTotal : bestGoers[p];
    }

    /** Gives one harm at a time to the last village that has least and can bear more: so the greatest stays least. */
    int shares(int v, int village) {
        if (!isVillage(village)) return UNKNOWN;
        if (v < 0 || v > 999) return OUTSIDE;
        int[] share = new int[4];
        for (int i = 0; i < v; i++) {
            int to = NONE;
            for (int u = 0; u < w.bear.size(); u++) {
                if (share[u] < w.bear.get(u) && (to == NONE || share[u] <= share[to])) to = u;
            }
            if (to == NONE) return NONE;
            share[to]++;
        }
        // what the first ones have may go to those behind them, as long as these stay below the greatest
        int greatest = Arrays.stream(share).max().getAsInt();
        for (int from = 0; from < w.bear.size(); from++) {
            for (int to = w.bear.size() - 1; to > from; to--) {
                while (share[from] > 0 && share[to] < Math.min(greatest, w.bear.get(to))) {
                    share[from]--;
                    share[to]++;
                }
            }
        }
        return share[village];
    }

    int dry(int n, int q) {
        if (n < 0 || n > 60 || q < 0 || q > 100) return OUTSIDE;
        java.math.BigInteger odds = java.math.BigInteger.valueOf(1000000000L);
        for (int i = 0; i < n; i++) {
            odds = odds.multiply(java.math.BigInteger.valueOf(q)).divide(java.math.BigInteger.valueOf(100));
        }
        return odds.intValueExact();
    }

    // ---- returns

    int returned(int v) {
        if (v < 0 || v > 999) return OUTSIDE;
        if (!w.there) return NOT;
        if (returns.size() == 6) return FULL;
        int[] row = new int[5];
        row[0] = v;
        for (int u = 0; u < w.bear.size(); u++) row[u + 1] = w.bear.get(u);
        returns.add(row);
        return returns.size();
    }

    int write(int p, int harm) {
        if (!isPerson(p)) return UNKNOWN;
        if (harm < 0 || harm > 9999) return OUTSIDE;
        if (book.size() == 15) return FULL;
        book.add(new int[] {p, harm});
        return book.size();
    }

    int tear() {
        int both = returns.size() + book.size();
        returns.clear();
        book.clear();
        return both;
    }

    int judge() {
        for (int i = 0; i < book.size(); i++) {
            if (w.persons.get(book.get(i)[0]).harm != book.get(i)[1]) return i;
        }
        return NONE;
    }

    // ---- draws, images

    int seed(int v) {
        if (v < 0) return OUTSIDE;
        int was = seed;
        seed = v;
        return was;
    }

    int keep(int i) {
        if (i != 0 && i != 1) return UNKNOWN;
        images[i] = w.copy();
        imageSeeds[i] = seed;
        past.clear();
        return 1;
    }

    int goBack(int i) {
        if (i != 0 && i != 1) return UNKNOWN;
        if (images[i] == null) return NOT;
        w = images[i].copy();
        seed = imageSeeds[i];
        past.clear();
        return 1;
    }
}
