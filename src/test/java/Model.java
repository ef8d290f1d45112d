import java.util.ArrayList;
import java.util.HashMap;
import java.util.List;
import java.util.Map;
import java.util.TreeSet;

/**
 * The document a second time, in another way: by copies of everything, closures and the trying of
 * all there is. It is slow and plain, and ModelTest holds the class against it.
 */
final class Model {
    static final int NONE = -1;

    static final class Glove {
        int from, by, work, leather, mark, size, how;

        Glove copy() {
            Glove g = new Glove();
            g.from = from;
            g.by = by;
            g.work = work;
            g.leather = leather;
            g.mark = mark;
            g.size = size;
            g.how = how;
            return g;
        }

        boolean open() {
            return how == 0 || how == 3;
        }
    }

    static final class One {
        int hand, told, coins, cold;

        One copy() {
            One o = new One();
            o.hand = hand;
            o.told = told;
            o.coins = coins;
            o.cold = cold;
            return o;
        }
    }

    static final class Core {
        List<One> people = new ArrayList<>();
        List<Glove> gloves = new ArrayList<>();
        List<int[]> book = new ArrayList<>();
        int day, frost, x = 139;

        Core copy() {
            Core c = new Core();
            for (One o : people) {
                c.people.add(o.copy());
            }
            for (Glove g : gloves) {
                c.gloves.add(g.copy());
            }
            c.book.addAll(book);
            c.day = day;
            c.frost = frost;
            c.x = x;
            return c;
        }

        int rights(int one) {
            return (int) gloves.stream().filter(g -> g.open() && g.from == one).count();
        }

        int lefts(int one) {
            return (int) gloves.stream().filter(g -> g.how == 0 && g.by == one).count();
        }
    }

    static final class All {
        Core core = new Core();
        List<Core> undo = new ArrayList<>();
        List<ModelText> texts = new ArrayList<>();
        int ruling = NONE;
        int[] prices = {1, 1, 1, 1, 1, 1, 1, 1, 1, 1, 1, 1};
        List<Integer> tests = new ArrayList<>();
        List<Integer> claims = new ArrayList<>();
        List<int[]> chest = new ArrayList<>();
        List<int[]> grown = new ArrayList<>();

        All copy() {
            All a = new All();
            a.core = core.copy();
            for (Core c : undo) {
                a.undo.add(c.copy());
            }
            a.texts.addAll(texts);
            a.ruling = ruling;
            a.prices = prices.clone();
            a.tests.addAll(tests);
            a.claims.addAll(claims);
            a.chest.addAll(chest);
            a.grown.addAll(grown);
            return a;
        }
    }

    All all = new All();
    All image = new All();
    StringBuilder tape = new StringBuilder();
    int fault = NONE;
    int place = NONE;

    // ---- told

    int one(int hand, int coins) {
        if (hand < 1 || hand > 9 || coins < 0 || coins > 9999 || all.core.people.size() == 7) {
            return NONE;
        }
        One o = new One();
        o.hand = hand;
        o.told = coins;
        o.coins = coins;
        all.core.people.add(o);
        return all.core.people.size() - 1;
    }

    int feed(int a, int b, int c, int d, int e) {
        if (tape.length() + 20 > 300) {
            return NONE;
        }
        for (int word : new int[] {a, b, c, d, e}) {
            tape.append((char) (word >>> 24)).append((char) (word >>> 16 & 255));
            tape.append((char) (word >>> 8 & 255)).append((char) (word & 255));
        }
        return tape.length();
    }

    int end(int n) {
        if (n < 0 || n > tape.length()) {
            return NONE;
        }
        tape.setLength(n);
        return n;
    }

    int text() {
        if (all.texts.size() == 4) {
            return NONE;
        }
        String signs = tape.toString();
        tape.setLength(0);
        try {
            ModelText read = new ModelText(signs);
            fault = 0;
            place = NONE;
            all.texts.add(read);
            return all.texts.size() - 1;
        } catch (ModelText.Fault f) {
            fault = f.why;
            place = f.place;
            return NONE;
        }
    }

    int fault(int what) {
        return what == 0 ? fault : what == 1 ? place : NONE;
    }

    boolean by(int text) {
        if (text < -1 || text >= all.texts.size()) {
            return false;
        }
        all.ruling = text;
        return true;
    }

    // ---- laws

    private ModelText ruling() {
        return all.ruling == NONE ? null : all.texts.get(all.ruling);
    }

    static int cut(long value, int most) {
        return (int) Math.max(0, Math.min(most, value));
    }

    static int chill(Core c, ModelText t, int one) {
        if (t != null && t.laws.containsKey("chill")) {
            return cut(t.laws.get("chill").eval(c, one), 99);
        }
        return c.frost * Math.max(0, 2 - c.lefts(one) - c.rights(one));
    }

    static int fine(Core c, ModelText t, int one) {
        if (t != null && t.laws.containsKey("fine")) {
            return cut(t.laws.get("fine").eval(c, one), 99);
        }
        return c.rights(one);
    }

    static int grows(Core c, ModelText t, int glove) {
        if (t != null && t.laws.containsKey("grows")) {
            return cut(t.laws.get("grows").eval(c, glove), 9);
        }
        return 1;
    }

    static int pawn(Core c, ModelText t, int glove) {
        if (t != null && t.laws.containsKey("pawn")) {
            return cut(t.laws.get("pawn").eval(c, glove), 99);
        }
        return c.gloves.get(glove).work / 2;
    }

    // ---- deeds

    private boolean isOne(int one) {
        return one >= 0 && one < all.core.people.size();
    }

    private Glove glove(int g) {
        return g >= 0 && g < all.core.gloves.size() ? all.core.gloves.get(g) : null;
    }

    private void step(Core ahead) {
        all.undo.add(ahead);
        if (all.undo.size() > 30) {
            all.undo.remove(0);
        }
    }

    int bargain(int from, int by, int work, int leather, int mark) {
        Core ahead = all.core.copy();
        int made = bargained(from, by, work, leather, mark);
        if (made != NONE) {
            step(ahead);
        }
        return made;
    }

    private int bargained(int from, int by, int work, int leather, int mark) {
        boolean fits = isOne(from) && isOne(by) && from != by && work >= 1 && work <= 99;
        if (!fits || leather < 0 || leather > 2 || mark < 0 || mark > 9 || all.core.gloves.size() == 12) {
            return NONE;
        }
        Glove g = new Glove();
        g.from = from;
        g.by = by;
        g.work = work;
        g.leather = leather;
        g.mark = mark;
        g.size = all.core.people.get(from).hand;
        all.core.gloves.add(g);
        return all.core.gloves.size() - 1;
    }

    int work(int glove, int hours) {
        Core ahead = all.core.copy();
        int yet = worked(glove, hours);
        if (yet != NONE) {
            step(ahead);
        }
        return yet;
    }

    private int worked(int glove, int hours) {
        Glove g = glove(glove);
        if (g == null || !g.open() || hours < 1 || hours > 9) {
            return NONE;
        }
        g.work = g.work > hours ? g.work - hours : 0;
        g.how = g.work == 0 ? 1 : g.how;
        return g.work;
    }

    boolean pass(int glove, int to) {
        Core ahead = all.core.copy();
        boolean done = passed(glove, to);
        if (done) {
            step(ahead);
        }
        return done;
    }

    private boolean passed(int glove, int to) {
        Glove g = glove(glove);
        if (g == null || g.how != 0 || !isOne(to) || to == g.from || to == g.by) {
            return false;
        }
        g.by = to;
        return true;
    }

    boolean lose(int glove) {
        Core ahead = all.core.copy();
        boolean done = lost(glove);
        if (done) {
            step(ahead);
        }
        return done;
    }

    private boolean lost(int glove) {
        Glove g = glove(glove);
        if (g == null || g.how != 0) {
            return false;
        }
        g.how = 2;
        return true;
    }

    boolean find(int glove, int one) {
        Glove g = glove(glove);
        if (g == null || g.how != 2 || !isOne(one) || one == g.from) {
            return false;
        }
        step(all.core.copy());
        g.how = 0;
        g.by = one;
        return true;
    }

    int pledge(int glove) {
        Core ahead = all.core.copy();
        int pawn = pawned(glove);
        if (pawn != NONE) {
            step(ahead);
        }
        return pawn;
    }

    private int pawned(int glove) {
        Glove g = glove(glove);
        if (g == null || g.how != 0) {
            return NONE;
        }
        int pawn = pawn(all.core, ruling(), glove);
        if (pawn == 0) {
            return NONE;
        }
        One holder = all.core.people.get(g.by);
        holder.coins = Math.min(9999, holder.coins + pawn);
        g.how = 3;
        return pawn;
    }

    int redeem(int glove) {
        Glove g = glove(glove);
        if (g == null || g.how != 3) {
            return NONE;
        }
        int pawn = pawn(all.core, ruling(), glove);
        One holder = all.core.people.get(g.by);
        if (holder.coins < pawn) {
            return NONE;
        }
        step(all.core.copy());
        holder.coins -= pawn;
        g.how = 0;
        return pawn;
    }

    static int next(int x) {
        return (x * 373 + 251) % 30467;
    }

    private static void aDay(Core c, ModelText t) {
        for (int p = 0; p < c.people.size(); p++) {
            One o = c.people.get(p);
            o.cold = Math.min(9999, o.cold + chill(c, t, p));
            if (c.rights(p) > 0 && o.coins > 0) {
                int fine = Math.min(o.coins, fine(c, t, p));
                if (fine > 0) {
                    o.coins -= fine;
                    c.book.add(new int[] {c.day, p, fine});
                    if (c.book.size() > 30) {
                        c.book.remove(0);
                    }
                }
            }
        }
        if (c.day % 7 == 6) {
            for (int g = 0; g < c.gloves.size(); g++) {
                Glove glove = c.gloves.get(g);
                if (glove.open()) {
                    glove.work = Math.min(99, glove.work + grows(c, t, g));
                }
            }
        }
        c.day++;
        c.frost = c.x % 10;
        c.x = next(c.x);
    }

    int day(int n) {
        if (n < 1 || n > 60 || all.core.day + n > 9999) {
            return NONE;
        }
        for (int i = 0; i < n; i++) {
            step(all.core.copy());
            aDay(all.core, ruling());
        }
        return all.core.frost;
    }

    int played(int text) {
        if (text < 0 || text >= all.texts.size()) {
            return -2;
        }
        List<Object[]> clauses = all.texts.get(text).clauses;
        for (int i = 0; i < clauses.size(); i++) {
            if (!plays(clauses.get(i))) {
                return i;
            }
        }
        return NONE;
    }

    private boolean plays(Object[] c) {
        switch ((String) c[0]) {
            case "one":
                return one((Integer) c[1], (Integer) c[2]) != NONE;
            case "owe":
                return bargain((Integer) c[1], (Integer) c[2], (Integer) c[3], (Integer) c[4], (Integer) c[5]) != NONE;
            case "do":
                return work((Integer) c[1], (Integer) c[2]) != NONE;
            case "pass":
                return pass((Integer) c[1], (Integer) c[2]);
            case "lose":
                return lose((Integer) c[1]);
            case "pledge":
                return pledge((Integer) c[1]) != NONE;
            case "redeem":
                return redeem((Integer) c[1]) != NONE;
            case "day":
                for (int i = 0; i < (Integer) c[1]; i++) {
                    if (day(1) == NONE) {
                        return false;
                    }
                }
                return true;
            default:
                return true;
        }
    }

    int winters(int seed, int n) {
        int people = all.core.people.size();
        if (seed < 0 || seed > 9999 || n < 1 || n > 40 || people == 0) {
            return NONE;
        }
        step(all.core.copy());
        Core c = all.core;
        c.x = seed * 2 + 139;
        for (int i = 0; i < n; i++) {
            int x = c.x;
            c.x = next(c.x);
            int gloves = c.gloves.size();
            int glove = gloves == 0 ? 99 : x % gloves;
            switch (x % 7) {
                case 0 -> bargained(x % people, x / 7 % people, 1 + x % 20, x % 3, x % 10);
                case 1 -> worked(glove, 1 + x % 9);
                case 2 -> passed(glove, x / 5 % people);
                case 3 -> {
                    if (x % 3 == 0) {
                        lost(glove);
                    }
                }
                case 4 -> pawned(glove);
                default -> {
                    if (c.day < 9999) {
                        aDay(c, ruling());
                    }
                }
            }
        }
        return c.day;
    }

    int undo() {
        if (all.undo.isEmpty()) {
            return NONE;
        }
        Core was = all.undo.remove(all.undo.size() - 1);
        for (int p = was.people.size(); p < all.core.people.size(); p++) {
            One o = all.core.people.get(p).copy();
            o.coins = o.told;
            o.cold = 0;
            was.people.add(o);
        }
        all.core = was;
        return all.undo.size();
    }

    // ---- asked

    int of(int one, int what) {
        if (!isOne(one) || what < 0 || what > 7) {
            return -100000;
        }
        One o = all.core.people.get(one);
        int sum = 0;
        for (Glove g : all.core.gloves) {
            sum += g.open() && g.by == one ? g.work : 0;
            sum -= g.open() && g.from == one ? g.work : 0;
        }
        return new int[] {o.hand, o.coins, o.cold, all.core.rights(one), all.core.lefts(one),
            chill(all.core, ruling(), one), fine(all.core, ruling(), one), sum}[what];
    }

    int ofGlove(int glove, int what) {
        Glove g = glove(glove);
        if (g == null || what < 0 || what > 8) {
            return NONE;
        }
        return new int[] {g.from, g.by, g.work, g.leather, g.mark, g.size, g.how,
            grows(all.core, ruling(), glove), pawn(all.core, ruling(), glove)}[what];
    }

    int is(int what) {
        return what < 0 || what > 3 ? -2
            : new int[] {all.core.day, all.core.frost, all.core.x, all.core.gloves.size()}[what];
    }

    int book(int i, int what) {
        if (i == NONE) {
            return all.core.book.size();
        }
        return i < 0 || i >= all.core.book.size() || what < 0 || what > 2 ? -2 : all.core.book.get(i)[what];
    }

    int foretold(int n, int one, int what) {
        if (n < 1 || n > 60 || what < 0 || what > 2 || what > 0 && !isOne(one)) {
            return NONE;
        }
        Core c = all.core.copy();
        for (int i = 0; i < n && c.day < 9999; i++) {
            aDay(c, ruling());
        }
        return what == 0 ? c.frost : what == 1 ? c.people.get(one).cold : c.people.get(one).coins;
    }

    int firstFine(int one) {
        if (!isOne(one)) {
            return NONE;
        }
        Core c = all.core.copy();
        for (int i = 1; i <= 60 && c.day < 9999; i++) {
            int before = c.people.get(one).coins;
            aDay(c, ruling());
            if (c.people.get(one).coins < before) {
                return i;
            }
        }
        return NONE;
    }

    int free() {
        int bits = 0;
        for (int p = 0; p < all.core.people.size(); p++) {
            bits += all.core.rights(p) == 0 ? 1 << p : 0;
        }
        return bits;
    }

    boolean price(int glove, int price) {
        if (glove < 0 || glove > 11 || price < 0 || price > 9) {
            return false;
        }
        all.prices[glove] = price;
        return true;
    }

    /** By all sets of what is done already, not by any rule of thumb. */
    int order(int one, int i) {
        if (!isOne(one)) {
            return -2;
        }
        List<Integer> mine = new ArrayList<>();
        for (int g = 0; g < all.core.gloves.size(); g++) {
            if (glove(g).open() && glove(g).from == one) {
                mine.add(g);
            }
        }
        int n = mine.size();
        int[] cost = new int[1 << n];
        int[] first = new int[1 << n];
        for (int done = (1 << n) - 2; done >= 0; done--) {
            int hours = 0;
            for (int k = 0; k < n; k++) {
                hours += (done >> k & 1) == 1 ? glove(mine.get(k)).work : 0;
            }
            cost[done] = Integer.MAX_VALUE;
            for (int k = 0; k < n; k++) {
                if ((done >> k & 1) == 0) {
                    int c = all.prices[mine.get(k)] * (hours + glove(mine.get(k)).work) + cost[done | 1 << k];
                    if (c < cost[done]) {
                        cost[done] = c;
                        first[done] = k;
                    }
                }
            }
        }
        if (i == NONE) {
            return cost[0];
        }
        if (i < 0 || i >= n) {
            return -2;
        }
        int done = 0;
        for (int k = 0; k < i; k++) {
            done |= 1 << first[done];
        }
        return mine.get(first[done]);
    }

    int whose(int size, int t) {
        if (size < 1 || size > 9 || t < 0 || t > 8) {
            return NONE;
        }
        int bits = 0;
        for (int p = 0; p < all.core.people.size(); p++) {
            int hand = all.core.people.get(p).hand;
            bits += hand >= size - t && hand <= size + t ? 1 << p : 0;
        }
        return bits;
    }

    int test(int people) {
        if (people == NONE) {
            all.tests.clear();
            return 0;
        }
        if (people < 0 || people > 127 || all.tests.size() == 8) {
            return -2;
        }
        all.tests.add(people);
        return all.tests.size();
    }

    private int depth(int set) {
        if (Integer.bitCount(set) == 1) {
            return 0;
        }
        int best = 99;
        for (int t : all.tests) {
            best = Math.min(best, depthBy(set, t));
        }
        return best;
    }

    private int depthBy(int set, int test) {
        int yes = set & test;
        int no = set - yes;
        return yes == 0 || no == 0 ? 99 : Math.min(99, 1 + Math.max(depth(yes), depth(no)));
    }

    int tries(int people, boolean first) {
        if (people <= 0 || people >= 1 << all.core.people.size()) {
            return -2;
        }
        int depth = depth(people);
        if (depth == 99) {
            return -2;
        }
        if (!first) {
            return depth;
        }
        for (int t = 0; depth > 0 && t < all.tests.size(); t++) {
            if (depthBy(people, all.tests.get(t)) == depth) {
                return t;
            }
        }
        return NONE;
    }

    private boolean prefers(int one, int a, int b) {
        if (b == NONE) {
            return true;
        }
        int hand = all.core.people.get(one).hand;
        int farA = Math.abs(hand - all.core.people.get(a).hand);
        int farB = Math.abs(hand - all.core.people.get(b).hand);
        return farA != farB ? farA < farB : a < b;
    }

    /** Of all rows that nobody would leave, the one that those who ask like best. */
    int weds(int m, int one) {
        if (m < 1 || m > 6 || all.core.people.size() < m + 1 || !isOne(one)) {
            return NONE;
        }
        int[] best = null;
        int n = all.core.people.size();
        int[] row = new int[6];
        int rows = 1;
        for (int i = 0; i < m; i++) {
            rows *= n - m + 1;
        }
        for (int r = 0; r < rows; r++) {
            int rest = r;
            for (int i = 0; i < m; i++) {
                int w = rest % (n - m + 1);
                row[i] = w == n - m ? NONE : m + w;
                rest /= n - m + 1;
            }
            if (unrest(m, row[0], row[1], row[2], row[3], row[4], row[5]) == 0 && isLiked(row, best, m)) {
                best = row.clone();
            }
        }
        if (one < m) {
            return best[one];
        }
        for (int i = 0; i < m; i++) {
            if (best[i] == one) {
                return i;
            }
        }
        return NONE;
    }

    private boolean isLiked(int[] row, int[] than, int m) {
        if (than == null) {
            return true;
        }
        for (int i = 0; i < m; i++) {
            if (row[i] != than[i] && (row[i] == NONE || !prefers(i, row[i], than[i]))) {
                return false;
            }
        }
        return true;
    }

    int unrest(int m, int a, int b, int c, int d, int e, int f) {
        int n = all.core.people.size();
        if (m < 1 || m > 6 || n < m + 1) {
            return NONE;
        }
        int[] row = {a, b, c, d, e, f};
        Map<Integer, Integer> mate = new HashMap<>();
        for (int i = 0; i < m; i++) {
            if (row[i] != NONE) {
                if (row[i] < m || row[i] >= n || mate.containsKey(row[i])) {
                    return NONE;
                }
                mate.put(row[i], i);
            }
        }
        int many = 0;
        for (int i = 0; i < m; i++) {
            for (int o = m; o < n; o++) {
                if (row[i] != o && prefers(i, o, row[i]) && prefers(o, i, mate.getOrDefault(o, NONE))) {
                    many++;
                }
            }
        }
        return many;
    }

    int claim(int claim) {
        if (claim == NONE) {
            all.claims.clear();
            return 0;
        }
        if (claim < 0 || claim > 9999 || all.claims.size() == 6) {
            return -2;
        }
        all.claims.add(claim);
        return all.claims.size();
    }

    /** In hundred-and-twentieths of a coin, in which all levels are whole. */
    int estate(int e, int k, boolean low) {
        if (e < 0 || e > 9999 || k < 0 || k >= all.claims.size()) {
            return NONE;
        }
        long sum = all.claims.stream().mapToLong(c -> c).sum();
        long has;
        if (2L * e <= sum) {
            has = level(120L * e, k);
        } else if (e > sum) {
            has = 120L * all.claims.get(k);
        } else {
            has = 120L * all.claims.get(k) - level(120L * (sum - e), k);
        }
        long common = has == 0 ? 120 : 1;
        for (long g = 1; g <= 120; g++) {
            common = has % g == 0 && 120 % g == 0 ? g : common;
        }
        return (int) (low ? 120 / common : has / common);
    }

    private long level(long parts, int k) {
        long lowest = 0;
        long highest = 120L * 9999;
        while (lowest < highest) {
            long middle = (lowest + highest) / 2;
            long sum = 0;
            for (int c : all.claims) {
                sum += Math.min(middle, 60L * c);
            }
            if (sum >= parts) {
                highest = middle;
            } else {
                lowest = middle + 1;
            }
        }
        return Math.min(lowest, 60L * all.claims.get(k));
    }

    int auction(int glove, boolean paid) {
        Glove g = glove(glove);
        if (g == null || g.how != 2) {
            return NONE;
        }
        List<int[]> bids = new ArrayList<>();
        for (int p = 0; p < all.core.people.size(); p++) {
            int coins = all.core.people.get(p).coins;
            if (coins > 0) {
                bids.add(new int[] {p, Math.min(coins, 10 * (g.mark + g.work))});
            }
        }
        if (bids.isEmpty()) {
            return NONE;
        }
        bids.sort((a, b) -> b[1] - a[1]);
        return !paid ? bids.get(0)[0] : bids.size() == 1 ? 0 : bids.get(1)[1];
    }

    int chest(int size, int t) {
        if (size == NONE) {
            all.chest.clear();
            return 0;
        }
        if (size < 1 || size > 9 || t < 0 || t > 8 || all.chest.size() == 6) {
            return -2;
        }
        all.chest.add(new int[] {size, t});
        return all.chest.size();
    }

    private void owners(List<Integer> sofar, List<List<Integer>> ways) {
        if (sofar.size() == all.chest.size()) {
            ways.add(new ArrayList<>(sofar));
            return;
        }
        int[] left = all.chest.get(sofar.size());
        for (int p = 0; p < all.core.people.size(); p++) {
            if (!sofar.contains(p) && Math.abs(all.core.people.get(p).hand - left[0]) <= left[1]) {
                sofar.add(p);
                owners(sofar, ways);
                sofar.remove(sofar.size() - 1);
            }
        }
    }

    int lives(int k) {
        if (k < -1 || k >= all.chest.size()) {
            return -2;
        }
        List<List<Integer>> ways = new ArrayList<>();
        owners(new ArrayList<>(), ways);
        if (k == NONE) {
            return ways.size();
        }
        TreeSet<Integer> whose = new TreeSet<>();
        for (List<Integer> way : ways) {
            whose.add(way.get(k));
        }
        return whose.size() == 1 ? whose.first() : NONE;
    }

    int frosts(int c, int d, int n, int k, boolean low) {
        if (c < 0 || c > 10 || d < 0 || d > 10 || n < 1 || n > 8 || k < 0 || k > n) {
            return NONE;
        }
        long upper = 0;
        long lower = 1;
        for (int i = 0; i < n; i++) {
            lower *= 10;
        }
        for (int days = 0; days < 1 << n; days++) {
            long odds = Integer.bitCount(days) == k ? 1 : 0;
            boolean cold = false;
            for (int i = 0; i < n; i++) {
                int chance = cold ? c : d;
                cold = (days >> i & 1) == 1;
                odds *= cold ? chance : 10 - chance;
            }
            upper += odds;
        }
        for (int p : new int[] {2, 5}) {
            while (upper % p == 0 && lower % p == 0) {
                upper /= p;
                lower /= p;
            }
        }
        return (int) (low ? upper == 0 ? 1 : lower : upper);
    }

    /** Every set of gloves is walked around. */
    int ring() {
        int n = all.core.gloves.size();
        int best = 0;
        for (int set = 1; set < 1 << n; set++) {
            int many = Integer.bitCount(set);
            boolean better = best == 0 || many < Integer.bitCount(best);
            if (better && many >= 2 && many <= 7 && isRing(set)) {
                best = set;
            }
        }
        return best;
    }

    private boolean isRing(int set) {
        Map<Integer, Integer> to = new HashMap<>();
        for (int g = 0; g < all.core.gloves.size(); g++) {
            if ((set >> g & 1) == 1) {
                if (glove(g).how != 0 || to.put(glove(g).from, glove(g).by) != null) {
                    return false;
                }
            }
        }
        int start = to.keySet().iterator().next();
        int at = start;
        for (int i = 1; i <= to.size(); i++) {
            if (!to.containsKey(at)) {
                return false;
            }
            at = to.get(at);
            if (at == start) {
                return i == to.size();
            }
        }
        return false;
    }

    int richest() {
        int best = NONE;
        int most = -1;
        for (int p = 0; p < all.core.people.size(); p++) {
            int sum = 0;
            for (Glove g : all.core.gloves) {
                sum += g.how == 0 && g.by == p ? g.work : 0;
            }
            if (all.core.lefts(p) > 0 && sum > most) {
                most = sum;
                best = p;
            }
        }
        return best;
    }

    int grown(int glove, int more) {
        if (glove == NONE) {
            all.grown.clear();
            return 0;
        }
        if (glove(glove) == null || more < 0 || more > 9 || all.grown.size() == 8) {
            return -2;
        }
        all.grown.add(new int[] {glove, more});
        return all.grown.size();
    }

    int whoseLaw() {
        int bits = 0;
        for (int t = 0; t < all.texts.size(); t++) {
            ModelText text = all.texts.get(t);
            boolean so = all.grown.stream()
                .allMatch(g -> glove(g[0]) == null || grows(all.core, text, g[0]) == g[1]);
            bits += so ? 1 << t : 0;
        }
        return bits;
    }

    int fined(int one) {
        if (one != NONE && !isOne(one)) {
            return -2;
        }
        return all.core.book.stream().filter(f -> one == NONE || f[1] == one).mapToInt(f -> f[2]).sum();
    }

    int pairs() {
        int many = 0;
        for (Glove a : all.core.gloves) {
            for (Glove b : all.core.gloves) {
                many += a != b && a.open() && b.open() && a.size == b.size && a.leather == b.leather ? 1 : 0;
            }
        }
        return many / 2;
    }

    int coldest() {
        int most = all.core.people.stream().mapToInt(o -> o.cold).max().orElse(-1);
        for (int p = 0; p < all.core.people.size(); p++) {
            if (all.core.people.get(p).cold == most) {
                return p;
            }
        }
        return NONE;
    }

    int image() {
        image = all.copy();
        return all.core.day;
    }

    int back() {
        all = image.copy();
        return all.core.day;
    }

    int about(int what) {
        return what < 0 || what > 8 ? -2 : new int[] {all.core.people.size(), all.texts.size(), all.ruling,
            all.undo.size(), all.tests.size(), all.claims.size(), all.chest.size(), all.grown.size(),
            tape.length()}[what];
    }
}
