import java.nio.charset.StandardCharsets;
import java.util.Random;

/** Random runs of calls on a LeftGlove and on the Model: every answer must be the same. */
public final class ModelTest {
    private static final int CALLS = 512;

    private final Random random;
    private final TextMaker maker;
    private final LeftGlove x = new LeftGlove();
    private final Model m = new Model();
    private final StringBuilder log = new StringBuilder();
    private final int tendency;
    private long got;
    private long want;

    private ModelTest(long seed) {
        random = new Random(seed);
        maker = new TextMaker(random);
        tendency = random.nextInt(4);
    }

    public static void main(String[] args) {
        int runs = args.length > 0 ? Integer.parseInt(args[0]) : 400;
        long first = args.length > 1 ? Long.parseLong(args[1]) : 0;
        int wrong = 0;
        for (int run = 0; run < runs && wrong < 5; run++) {
            if (!new ModelTest(first + run).isSame(first + run)) {
                wrong++;
            }
        }
        System.out.println("ModelTest: " + runs + " runs, " + wrong + " with an answer not as due");
        if (wrong != 0) {
            System.exit(1);
        }
    }

    private boolean isSame(long seed) {
        for (int i = 0; i < CALLS; i++) {
            try {
                call();
            } catch (RuntimeException e) {
                System.out.println("run " + seed + ":\n" + log + "threw " + e + " at " + e.getStackTrace()[0]);
                return false;
            }
            if (got != want) {
                System.out.println("run " + seed + ":\n" + log + "answered " + got + ", due is " + want);
                return false;
            }
        }
        return true;
    }

    private void said(String call, long answer, long due) {
        log.append(call).append(" -> ").append(answer).append('\n');
        got = answer;
        want = due;
    }

    private void said(String call, boolean answer, boolean due) {
        said(call, answer ? 1 : 0, due ? 1 : 0);
    }

    /** Mostly from least to most, now and then beside it, seldom far off. */
    private int in(int least, int most) {
        int way = random.nextInt(60);
        if (way == 0) {
            return least - 1;
        }
        if (way == 1) {
            return most + 1;
        }
        if (way == 2) {
            int[] far = {Integer.MIN_VALUE, Integer.MAX_VALUE, -1, -2, 1 << 30, 31, 32, 64, -1000000, random.nextInt()};
            return far[random.nextInt(far.length)];
        }
        if (way < 6) {
            return random.nextBoolean() ? least : most;
        }
        return least + random.nextInt(most - least + 1);
    }

    private int onePerson() {
        return in(0, Math.max(0, m.about(0) - 1));
    }

    private int oneGlove() {
        return in(0, Math.max(0, m.is(3) - 1));
    }

    private void call() {
        int way = random.nextInt(100);
        if (way < 8 && m.about(0) < 7 || m.about(0) < 2 && random.nextInt(3) == 0) {
            int hand = in(1, 9);
            int coins = random.nextInt(3) == 0 ? in(0, 9999) : in(0, 60);
            said("one(" + hand + "," + coins + ")", x.one(hand, coins), m.one(hand, coins));
        } else if (way < 16) {
            tell();
        } else if (way < 56) {
            deed();
        } else if (way < 72) {
            ask();
        } else if (way < 88) {
            puzzle();
        } else {
            rest();
        }
    }

    private void tell() {
        switch (random.nextInt(7)) {
            case 0:
                int[] f = {random.nextInt(), random.nextInt(), random.nextInt(), random.nextInt(), random.nextInt()};
                said("feed", x.feed(f[0], f[1], f[2], f[3], f[4]), m.feed(f[0], f[1], f[2], f[3], f[4]));
                return;
            case 1:
                int n = in(0, 300);
                said("end(" + n + ")", x.end(n), m.end(n));
                return;
            case 2:
                int text = in(-1, Math.max(0, m.about(1) - 1));
                said("by(" + text + ")", x.by(text), m.by(text));
                return;
            default:
                String signs = maker.text();
                tape(signs);
                said("text() of " + signs, x.text(), m.text());
                if (got == want) {
                    said("fault(0)", x.fault(0), m.fault(0));
                }
                if (got == want) {
                    said("fault(1)", x.fault(1), m.fault(1));
                }
        }
    }

    private void tape(String signs) {
        byte[] bytes = signs.getBytes(StandardCharsets.ISO_8859_1);
        x.end(0);
        m.end(0);
        for (int i = 0; i < bytes.length; i += 20) {
            int[] w = new int[5];
            for (int k = 0; k < 5; k++) {
                w[k] = Check.word(bytes, i + 4 * k);
            }
            said("feed", x.feed(w[0], w[1], w[2], w[3], w[4]), m.feed(w[0], w[1], w[2], w[3], w[4]));
        }
        said("end(" + bytes.length + ")", x.end(bytes.length), m.end(bytes.length));
    }

    private void deed() {
        int g = oneGlove();
        int p = onePerson();
        switch (random.nextInt(tendency == 0 ? 22 : 16)) {
            case 0: case 1: case 2: case 3:
                int q = onePerson();
                int work = random.nextBoolean() ? in(1, 9) : in(1, 99);
                int leather = in(0, 2);
                int mark = in(0, 9);
                said("bargain(" + p + "," + q + "," + work + "," + leather + "," + mark + ")",
                    x.bargain(p, q, work, leather, mark), m.bargain(p, q, work, leather, mark));
                return;
            case 4: case 5:
                int hours = in(1, 9);
                said("work(" + g + "," + hours + ")", x.work(g, hours), m.work(g, hours));
                return;
            case 6: case 7:
                said("pass(" + g + "," + p + ")", x.pass(g, p), m.pass(g, p));
                return;
            case 8:
                said("lose(" + g + ")", x.lose(g), m.lose(g));
                return;
            case 9: case 10:
                said("find(" + g + "," + p + ")", x.find(g, p), m.find(g, p));
                return;
            case 11:
                said("pledge(" + g + ")", x.pledge(g), m.pledge(g));
                return;
            case 12:
                said("redeem(" + g + ")", x.redeem(g), m.redeem(g));
                return;
            case 13:
                int text = in(0, Math.max(0, m.about(1) - 1));
                said("played(" + text + ")", x.played(text), m.played(text));
                return;
            case 14:
                int seed = in(0, 9999);
                int n = in(1, 40);
                said("winters(" + seed + "," + n + ")", x.winters(seed, n), m.winters(seed, n));
                return;
            default:
                int days = tendency == 0 ? in(40, 60) : random.nextInt(3) == 0 ? in(1, 60) : in(1, 7);
                said("day(" + days + ")", x.day(days), m.day(days));
        }
    }

    private void ask() {
        int what = in(0, 8);
        int p = onePerson();
        switch (random.nextInt(8)) {
            case 0: case 1:
                said("of(" + p + "," + what + ")", x.of(p, what), m.of(p, what));
                return;
            case 2: case 3:
                int g = oneGlove();
                said("ofGlove(" + g + "," + what + ")", x.ofGlove(g, what), m.ofGlove(g, what));
                return;
            case 4:
                int w = in(0, 3);
                said("is(" + w + ")", x.is(w), m.is(w));
                return;
            case 5:
                int i = in(-1, Math.max(0, m.book(-1, 0) - 1));
                int of = in(0, 2);
                said("book(" + i + "," + of + ")", x.book(i, of), m.book(i, of));
                return;
            case 6:
                int n = in(1, 60);
                int about = in(0, 2);
                said("foretold(" + n + "," + p + "," + about + ")", x.foretold(n, p, about), m.foretold(n, p, about));
                return;
            default:
                said("firstFine(" + p + ")", x.firstFine(p), m.firstFine(p));
        }
    }

    private void puzzle() {
        int p = onePerson();
        boolean b = random.nextBoolean();
        switch (random.nextInt(14)) {
            case 0:
                int g = in(0, 11);
                int price = in(0, 9);
                said("price(" + g + "," + price + ")", x.price(g, price), m.price(g, price));
                return;
            case 1: case 2:
                int i = in(-1, 4);
                said("order(" + p + "," + i + ")", x.order(p, i), m.order(p, i));
                return;
            case 3:
                int test = random.nextInt(20) == 0 ? -1 : in(0, 127);
                said("test(" + test + ")", x.test(test), m.test(test));
                return;
            case 4:
                int set = in(1, Math.max(1, (1 << m.about(0)) - 1));
                said("tries(" + set + "," + b + ")", x.tries(set, b), m.tries(set, b));
                return;
            case 5: case 6:
                int pairs = in(1, Math.max(1, Math.min(6, m.about(0) - 1)));
                said("weds(" + pairs + "," + p + ")", x.weds(pairs, p), m.weds(pairs, p));
                return;
            case 7:
                int of = in(1, Math.max(1, Math.min(6, m.about(0) - 1)));
                int[] r = new int[6];
                for (int k = 0; k < 6; k++) {
                    r[k] = random.nextInt(3) == 0 ? -1 : in(Math.max(0, Math.min(of, 6)), 6);
                }
                said("unrest(" + of + "," + java.util.Arrays.toString(r) + ")",
                    x.unrest(of, r[0], r[1], r[2], r[3], r[4], r[5]), m.unrest(of, r[0], r[1], r[2], r[3], r[4], r[5]));
                return;
            case 8:
                int claim = random.nextInt(12) == 0 ? -1 : random.nextBoolean() ? in(0, 9) : in(0, 9999);
                said("claim(" + claim + ")", x.claim(claim), m.claim(claim));
                return;
            case 9: case 10:
                int e = random.nextInt(3) == 0 ? in(0, 9999) : in(0, 30);
                int k = in(0, Math.max(0, m.about(5) - 1));
                said("estate(" + e + "," + k + "," + b + ")", x.estate(e, k, b), m.estate(e, k, b));
                return;
            case 11:
                int size = random.nextInt(12) == 0 ? -1 : in(1, 9);
                int t = random.nextInt(3) == 0 ? in(0, 8) : in(0, 2);
                said("chest(" + size + "," + t + ")", x.chest(size, t), m.chest(size, t));
                return;
            case 12:
                int left = in(-1, Math.max(0, m.about(6) - 1));
                said("lives(" + left + ")", x.lives(left), m.lives(left));
                return;
            default:
                int c = in(0, 10);
                int d = in(0, 10);
                int n = in(1, 8);
                int cold = in(0, Math.min(8, Math.max(0, n)));
                said("frosts(" + c + "," + d + "," + n + "," + cold + "," + b + ")",
                    x.frosts(c, d, n, cold, b), m.frosts(c, d, n, cold, b));
        }
    }

    private void rest() {
        int g = oneGlove();
        int p = onePerson();
        switch (random.nextInt(16)) {
            case 0:
                boolean b = random.nextBoolean();
                said("auction(" + g + "," + b + ")", x.auction(g, b), m.auction(g, b));
                return;
            case 1: case 2:
                said("ring()", x.ring(), m.ring());
                return;
            case 3:
                said("richest()", x.richest(), m.richest());
                return;
            case 4:
                int more = m.ofGlove(g, 7);
                more = random.nextInt(3) == 0 ? in(0, 9) : more;
                g = random.nextInt(10) == 0 ? -1 : g;
                said("grown(" + g + "," + more + ")", x.grown(g, more), m.grown(g, more));
                return;
            case 5:
                said("whoseLaw()", x.whoseLaw(), m.whoseLaw());
                return;
            case 6:
                int who = random.nextInt(3) == 0 ? -1 : p;
                said("fined(" + who + ")", x.fined(who), m.fined(who));
                return;
            case 7:
                said("pairs()", x.pairs(), m.pairs());
                return;
            case 8:
                said("coldest()", x.coldest(), m.coldest());
                return;
            case 9:
                said("free()", x.free(), m.free());
                return;
            case 10:
                int size = in(1, 9);
                int t = in(0, 8);
                said("whose(" + size + "," + t + ")", x.whose(size, t), m.whose(size, t));
                return;
            case 11:
                if (random.nextInt(3) == 0) {
                    said("image()", x.image(), m.image());
                } else if (random.nextInt(4) == 0) {
                    said("back()", x.back(), m.back());
                }
                return;
            case 12: case 13: case 14:
                said("undo()", x.undo(), m.undo());
                return;
            default:
                int what = in(0, 8);
                said("about(" + what + ")", x.about(what), m.about(what));
        }
    }
}
