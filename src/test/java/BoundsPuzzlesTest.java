import java.util.Arrays;
import java.util.function.Supplier;

/** The boundaries of promises 26 to 38: prices, orders, tries, weddings, estates, auctions, chests, frosts. */
public final class BoundsPuzzlesTest {
    private static final Check check = new Check();

    public static void main(String[] args) {
        promise26Price();
        promise27Order();
        promise27LikeOnes();
        promise28Whose();
        promise29Test();
        promise30Tries();
        promise30FirstTest();
        promise31Weds();
        promise31LikeHands();
        promise32Unrest();
        promise32WouldRather();
        promise33Claim();
        promise34Estate();
        promise34Half();
        promise35Auction();
        promise35Bids();
        promise36Chest();
        promise37Lives();
        promise38Frosts();
        promise38Odds();
        check.close("BoundsPuzzlesTest");
    }

    private static void promise26Price() {
        int[][] others = {{-1, 1}, {12, 1}, {0, -1}, {0, 10}, {-1, -1}, {12, 10}};
        for (int[] o : others) {
            check.isRefused("26: price(" + o[0] + ", " + o[1] + ")", Scenes::lively, x -> x.price(o[0], o[1]));
        }
        for (int far : Scenes.FAR) {
            check.isRefused("26: glove " + far, Scenes::lively, x -> x.price(far, 1));
            check.isRefused("26: price " + far, Scenes::lively, x -> x.price(0, far));
        }
        LeftGlove x = Check.people(5, 0, 6, 0);
        check.due("26: there or not", x.price(0, 0), true);
        check.due("26: the twelfth", x.price(11, 9), true);
        for (int i = 0; i < 12; i++) {
            x.bargain(0, 1, 1, 0, 0);
        }
        // 11 costs 9 first, then 1 .. 10 at 1 each: 2 + .. + 11, and 0 at nothing
        check.due("26: at first 1, but as told", x.order(0, -1), 9 + 65);
        check.due("26: 9 goes first", x.order(0, 0), 11);
        check.due("26: 0 goes last", x.order(0, 11), 0);
        check.due("26: telling is no STEP", x.about(3), 12);
        LeftGlove y = Check.people(5, 0, 6, 0);
        for (int i = 0; i < 12; i++) {
            y.bargain(0, 1, 1, 0, 0);
        }
        check.due("26: at first 1 each", y.order(0, -1), 78);
        check.due("26: told anew", x.price(0, 9), true);
        check.due("26: like ones, the lowest first", x.order(0, 0), 0);
    }

    private static void promise27Order() {
        for (int one : new int[] {-1, 4, 7, Integer.MIN_VALUE, Integer.MAX_VALUE}) {
            check.idle("27: order(" + one + ", NONE)", Scenes::lively, x -> x.order(one, -1), -2);
            check.idle("27: order(" + one + ", 0)", Scenes::lively, x -> x.order(one, 0), -2);
        }
        for (int i : new int[] {2, 3, 12, -2, Integer.MIN_VALUE, Integer.MAX_VALUE}) {
            check.idle("27: order(0, " + i + ")", Scenes::lively, x -> x.order(0, i), -2);
        }
        // glove 0: WORK 9 at 2; glove 3: WORK 6 at 1: 18 + 15 (or 6 + 30)
        check.idle("27: how much", Scenes::lively, x -> x.order(0, -1), 33);
        check.idle("27: the first", Scenes::lively, x -> x.order(0, 0), 0);
        check.idle("27: the second, a pawned one", Scenes::lively, x -> x.order(0, 1), 3);
        check.idle("27: 0 without duties", Scenes::lively, x -> x.order(3, -1), 0);
        check.idle("27: none such without duties", Scenes::lively, x -> x.order(3, 0), -2);
        check.idle("27: a lost one is no duty", Scenes::lively, x -> x.order(2, -1), 0);
        check.idle("27: a done one neither", Scenes::lively, x -> x.order(1, 0), 4);
        check.idle("27: no second", Scenes::lively, x -> x.order(1, 1), -2);
        check.idle("27: nobody is told", LeftGlove::new, x -> x.order(0, -1), -2);
        LeftGlove x = Check.people(5, 0, 6, 0);
        for (int i = 0; i < 12; i++) {
            x.bargain(0, 1, 99, 0, 0);
            x.price(i, 9);
        }
        check.due("27: the most of all", x.order(0, -1), 9 * 99 * 78);
        check.due("27: the twelfth", x.order(0, 11), 11);
        check.due("27: no thirteenth", x.order(0, 12), -2);
    }

    private static void duties(int[] works, int[] prices, int cost, int... order) {
        LeftGlove x = Check.people(5, 0, 6, 0);
        for (int i = 0; i < works.length; i++) {
            x.bargain(0, 1, works[i], 0, 0);
            x.price(i, prices[i]);
        }
        String name = Arrays.toString(works) + " at " + Arrays.toString(prices);
        check.due("27: how much of " + name, x.order(0, -1), cost);
        for (int i = 0; i < order.length; i++) {
            check.due("27: " + i + " of " + name, x.order(0, i), order[i]);
        }
    }

    private static void promise27LikeOnes() {
        duties(new int[] {2, 4, 6}, new int[] {1, 2, 3}, 2 + 12 + 36, 0, 1, 2);
        duties(new int[] {6, 4, 2}, new int[] {3, 2, 1}, 18 + 20 + 12, 0, 1, 2);
        duties(new int[] {5, 7, 3}, new int[] {0, 0, 0}, 0, 0, 1, 2);
        duties(new int[] {5, 7, 3}, new int[] {0, 1, 0}, 7, 1, 0, 2);
        duties(new int[] {99, 1}, new int[] {9, 1}, 1 + 900, 1, 0);
        duties(new int[] {99, 11}, new int[] {9, 1}, 891 + 110, 0, 1);
        duties(new int[] {11, 99}, new int[] {1, 9}, 11 + 990, 0, 1);
        duties(new int[] {3, 2, 3, 2}, new int[] {3, 2, 1, 1}, 9 + 10 + 7 + 10, 0, 1, 3, 2);
        duties(new int[] {1}, new int[] {9}, 9, 0);
    }

    private static void promise28Whose() {
        int[][] others = {{0, 0}, {10, 0}, {5, -1}, {5, 9}, {-1, 0}, {0, 9}};
        for (int[] o : others) {
            check.idle("28: whose(" + o[0] + ", " + o[1] + ")", Scenes::lively, x -> x.whose(o[0], o[1]), -1);
        }
        for (int far : Scenes.FAR) {
            check.idle("28: size " + far, Scenes::lively, x -> x.whose(far, 8), -1);
            check.idle("28: t " + far, Scenes::lively, x -> x.whose(5, far), -1);
        }
        check.idle("28: of nobody", LeftGlove::new, x -> x.whose(5, 8), 0);
        // hands 1 .. 7
        int[][] due = {{1, 0, 1}, {9, 0, 0}, {9, 1, 0}, {9, 2, 64}, {9, 8, 127}, {1, 8, 127}, {4, 0, 8}, {4, 1, 28},
            {4, 3, 127}, {4, 2, 62}, {1, 5, 63}, {1, 6, 127}};
        for (int[] d : due) {
            check.idle("28: whose(" + d[0] + ", " + d[1] + ")", Scenes::sevenPeople, x -> x.whose(d[0], d[1]), d[2]);
        }
    }

    private static LeftGlove eightTests() {
        LeftGlove x = Scenes.sevenPeople();
        for (int i = 0; i < 8; i++) {
            x.test(i == 7 ? 64 : 0);
        }
        return x;
    }

    private static void promise29Test() {
        for (int people : new int[] {128, -2, 129, Integer.MIN_VALUE, Integer.MAX_VALUE}) {
            check.idle("29: test(" + people + ")", Scenes::lively, x -> x.test(people), -2);
        }
        check.idle("29: if there are 8", BoundsPuzzlesTest::eightTests, x -> x.test(1), -2);
        LeftGlove x = new LeftGlove();
        check.due("29: none of none", x.test(-1), 0);
        check.due("29: 0 is the least", x.test(0), 1);
        check.due("29: 127 is the most, told or not", x.test(127), 2);
        for (int i = 3; i <= 8; i++) {
            check.due("29: how many", x.test(1), i);
        }
        check.due("29: a ninth", x.test(1), -2);
        check.due("29: none any more", x.test(-1), 0);
        check.due("29: none", x.about(4), 0);
        check.due("29: room again", x.test(1), 1);
        LeftGlove y = eightTests();
        check.due("29: the eighth is asked, too", y.tries(96, true), 7);
        y.test(-1);
        check.due("29: none parts them any more", y.tries(96, true), -2);
        LeftGlove z = testing(2, 1, 1, 1, 1, 1, 1, 1, 1);
        z.test(-1);
        check.due("29: not the first either", z.tries(3, false), -2);
        z.test(0);
        check.due("29: nor the second", z.tries(3, false), -2);
    }

    private static LeftGlove testing(int people, int... tests) {
        LeftGlove x = new LeftGlove();
        for (int i = 0; i < people; i++) {
            x.one(5, 0);
        }
        for (int test : tests) {
            x.test(test);
        }
        return x;
    }

    private static void promise30Tries() {
        for (int people : new int[] {0, -1, -2, 16, 17, 31, 128, Integer.MIN_VALUE, Integer.MAX_VALUE}) {
            check.idle("30: tries(" + people + ", false)", Scenes::lively, x -> x.tries(people, false), -2);
            check.idle("30: tries(" + people + ", true)", Scenes::lively, x -> x.tries(people, true), -2);
        }
        for (int one = 0; one < 4; one++) {
            int alone = 1 << one;
            check.idle("30: one alone needs none", Scenes::lively, x -> x.tries(alone, false), 0);
            check.idle("30: no first test", Scenes::lively, x -> x.tries(alone, true), -1);
        }
        check.idle("30: one alone without tests", Scenes::sevenPeople, x -> x.tries(64, false), 0);
        check.idle("30: two without tests", Scenes::sevenPeople, x -> x.tries(65, false), -2);
        check.idle("30: nor a first one", Scenes::sevenPeople, x -> x.tries(65, true), -2);
        check.idle("30: 128 of seven", Scenes::sevenPeople, x -> x.tries(128, false), -2);
        check.idle("30: a test of all tells nothing", () -> testing(2, 3), x -> x.tries(3, false), -2);
        check.idle("30: a test of none neither", () -> testing(2, 0), x -> x.tries(3, false), -2);
        check.idle("30: one that parts them does", () -> testing(2, 0, 3, 2), x -> x.tries(3, false), 1);
        check.idle("30: it is the first", () -> testing(2, 0, 3, 2), x -> x.tries(3, true), 2);
        check.idle("30: two of three can't be told apart", () -> testing(3, 1), x -> x.tries(7, false), -2);
        check.idle("30: nor first", () -> testing(3, 1), x -> x.tries(7, true), -2);
        check.idle("30: those that can be", () -> testing(3, 1), x -> x.tries(5, false), 1);
        // one by one: the last two are told apart by one
        check.idle("30: six for seven", () -> testing(7, 1, 2, 4, 8, 16, 32), x -> x.tries(127, false), 6);
        check.idle("30: seven can't, with five such", () -> testing(7, 1, 2, 4, 8, 16), x -> x.tries(127, false), -2);
        check.idle("30: three for seven", () -> testing(7, 85, 51, 15), x -> x.tries(127, false), 3);
        check.idle("30: two for four", () -> testing(4, 5, 3), x -> x.tries(15, false), 2);
    }

    private static void promise30FirstTest() {
        check.idle("30: of like ones the lowest", () -> testing(4, 3, 5), x -> x.tries(15, true), 0);
        check.idle("30: the same twice: the lowest", () -> testing(2, 1, 1), x -> x.tries(3, true), 0);
        check.idle("30: yes and no are alike", () -> testing(2, 2, 1), x -> x.tries(3, true), 0);
        check.idle("30: not the lowest, if it costs more", () -> testing(4, 1, 5, 3), x -> x.tries(15, true), 1);
        check.idle("30: the eighth", () -> testing(4, 1, 1, 1, 1, 1, 1, 5, 3), x -> x.tries(15, true), 6);
        // each next by what was said: a yes to 3 wants 1, a no wants 4
        check.idle("30: each next by what was said", () -> testing(4, 1, 4, 3), x -> x.tries(15, false), 2);
        check.idle("30: first", () -> testing(4, 1, 4, 3), x -> x.tries(15, true), 2);
        check.idle("30: people who aren't in the set are aside", () -> testing(7, 120, 65), x -> x.tries(72, true), 1);
    }

    private static LeftGlove hands(int... hands) {
        LeftGlove x = new LeftGlove();
        for (int hand : hands) {
            x.one(hand, 0);
        }
        return x;
    }

    private static void promise31Weds() {
        for (int m : new int[] {0, -1, 4, 5, 6, 7, Integer.MIN_VALUE, Integer.MAX_VALUE}) {
            check.idle("31: weds(" + m + ", 0) of four", Scenes::lively, x -> x.weds(m, 0), -1);
        }
        for (int one : new int[] {-1, 4, 7, -2, Integer.MIN_VALUE, Integer.MAX_VALUE}) {
            check.idle("31: weds(2, " + one + ") of four", Scenes::lively, x -> x.weds(2, one), -1);
        }
        check.idle("31: nobody is told", LeftGlove::new, x -> x.weds(1, 0), -1);
        check.idle("31: one is told", () -> hands(5), x -> x.weds(1, 0), -1);
        check.idle("31: one and one more", () -> hands(5, 5), x -> x.weds(1, 0), 1);
        check.idle("31: the other", () -> hands(5, 5), x -> x.weds(1, 1), 0);
        check.idle("31: m 6 of six", () -> hands(5, 5, 5, 5, 5, 5), x -> x.weds(6, 0), -1);
        // hands 1 .. 7: the seventh keeps the nearest of six
        int[] six = {-1, -1, -1, -1, -1, 6, 5};
        int[] one = {1, 0, -1, -1, -1, -1, -1};
        for (int i = 0; i < 7; i++) {
            int who = i;
            check.idle("31: weds(6, " + i + ")", Scenes::sevenPeople, x -> x.weds(6, who), six[i]);
            check.idle("31: weds(1, " + i + ")", Scenes::sevenPeople, x -> x.weds(1, who), one[i]);
        }
        check.idle("31: m 7 of seven", Scenes::sevenPeople, x -> x.weds(7, 0), -1);
    }

    private static void wed(int m, int[] hands, int... mates) {
        for (int one = 0; one < mates.length; one++) {
            int who = one;
            check.idle("31: weds(" + m + ", " + one + ") of " + Arrays.toString(hands), () -> hands(hands),
                x -> x.weds(m, who), mates[one]);
        }
    }

    private static void promise31LikeHands() {
        // who asks has like ones: the lowest
        wed(1, new int[] {5, 4, 6}, 1, 0, -1);
        wed(1, new int[] {5, 6, 4}, 1, 0, -1);
        wed(1, new int[] {5, 7, 4}, 2, -1, 0);
        // who is asked has like ones: the lowest
        wed(2, new int[] {4, 6, 5}, 2, -1, 0);
        wed(2, new int[] {6, 4, 5}, 2, -1, 0);
        // one is left for a nearer one and asks on, till none is left who may
        wed(2, new int[] {3, 5, 5, 9}, 3, 2, 1, 0);
        wed(3, new int[] {3, 4, 5, 5, 9, 9}, 5, 4, 3, 2, 1, 0);
        wed(3, new int[] {1, 2, 3, 3, 9}, -1, 4, 3, 2, 1);
        LeftGlove x = hands(3, 5, 5, 9);
        for (int i = 0; i < 3; i++) {
            check.due("31: asked again", x.weds(2, 0), 3);
            check.due("31: with others", x.weds(1, 0), 1);
            check.due("31: and with others", x.weds(3, 2), -1);
            check.due("31: of a row", x.unrest(2, 2, 3, 0, 0, 0, 0), 1);
        }
        // more of the others than who ask
        wed(2, new int[] {1, 9, 9, 1, 5, 5, 5}, 3, 2, 1, 0, -1, -1, -1);
    }

    private static void promise32Unrest() {
        int none = -1;
        for (int m : new int[] {0, -1, 4, 5, 6, 7, Integer.MIN_VALUE, Integer.MAX_VALUE}) {
            check.idle("32: m " + m, Scenes::lively, x -> x.unrest(m, none, none, none, none, none, none), -1);
        }
        check.idle("32: nobody is told", LeftGlove::new, x -> x.unrest(1, -1, 0, 0, 0, 0, 0), -1);
        int[] others = {0, 1, 4, 7, -2, Integer.MIN_VALUE, Integer.MAX_VALUE};
        for (int other : others) {
            check.idle("32: the first with " + other, Scenes::lively, x -> x.unrest(2, other, 3, 0, 0, 0, 0), -1);
            check.idle("32: the second with " + other, Scenes::lively, x -> x.unrest(2, 3, other, 0, 0, 0, 0), -1);
            check.idle("32: behind m: " + other, Scenes::lively, x -> x.unrest(2, 2, 3, other, other, other, other),
                Scenes.lively().unrest(2, 2, 3, none, none, none, none));
        }
        check.idle("32: one twice", Scenes::lively, x -> x.unrest(2, 3, 3, 0, 0, 0, 0), -1);
        check.idle("32: NONE twice", Scenes::lively, x -> x.unrest(2, none, none, 0, 0, 0, 0), 4);
        int[] row = {none, none, none, none, none, none};
        for (int place = 0; place < 6; place++) {
            int[] told = row.clone();
            told[place] = 6;
            // hands 1 .. 7: those nearer to the seventh than who has it
            check.idle("32: the seventh with " + place, Scenes::sevenPeople,
                x -> x.unrest(6, told[0], told[1], told[2], told[3], told[4], told[5]), 5 - place);
            int[] wrong = row.clone();
            wrong[place] = 5;
            check.idle("32: one below m at " + place, Scenes::sevenPeople,
                x -> x.unrest(6, wrong[0], wrong[1], wrong[2], wrong[3], wrong[4], wrong[5]), -1);
            int[] twice = told.clone();
            twice[(place + 1) % 6] = 6;
            check.idle("32: twice at " + place, Scenes::sevenPeople,
                x -> x.unrest(6, twice[0], twice[1], twice[2], twice[3], twice[4], twice[5]), -1);
        }
        check.idle("32: all alone", Scenes::sevenPeople, x -> x.unrest(6, none, none, none, none, none, none), 6);
        check.idle("32: three and four alone", Scenes::sevenPeople, x -> x.unrest(3, none, none, none, 0, 0, 0), 12);
    }

    private static void promise32WouldRather() {
        // of like hands the lowest is ahead: 1 would rather have 2 than 3, as would 0
        check.idle("32: of like ones ahead", () -> hands(5, 5, 5, 5), x -> x.unrest(2, 2, 3, 0, 0, 0, 0), 0);
        check.idle("32: of like ones behind", () -> hands(5, 5, 5, 5), x -> x.unrest(2, 3, 2, 0, 0, 0, 0), 1);
        check.idle("32: as they are wed", () -> hands(3, 5, 5, 9), x -> x.unrest(2, 3, 2, 0, 0, 0, 0), 0);
        check.idle("32: the other way", () -> hands(3, 5, 5, 9), x -> x.unrest(2, 2, 3, 0, 0, 0, 0), 1);
        check.idle("32: both must", () -> hands(1, 9, 9, 5), x -> x.unrest(2, 3, 2, 0, 0, 0, 0), 0);
        check.idle("32: with whom it is isn't counted", () -> hands(5, 5), x -> x.unrest(1, 1, 0, 0, 0, 0, 0), 0);
        check.idle("32: alone, any", () -> hands(1, 9), x -> x.unrest(1, -1, 0, 0, 0, 0, 0), 1);
    }

    private static LeftGlove sixClaims() {
        return Scenes.claiming(10, 20, 30, 40, 50, 60);
    }

    private static void promise33Claim() {
        for (int claim : new int[] {-2, 10000, 10001, Integer.MIN_VALUE, Integer.MAX_VALUE}) {
            check.idle("33: claim(" + claim + ")", Scenes::lively, x -> x.claim(claim), -2);
        }
        check.idle("33: if there are 6", BoundsPuzzlesTest::sixClaims, x -> x.claim(5), -2);
        LeftGlove x = new LeftGlove();
        check.due("33: none of none", x.claim(-1), 0);
        check.due("33: 0 is the least", x.claim(0), 1);
        check.due("33: 9999 is the most", x.claim(9999), 2);
        for (int i = 3; i <= 6; i++) {
            check.due("33: how many", x.claim(9999), i);
        }
        check.due("33: a seventh", x.claim(0), -2);
        check.due("33: none any more", x.claim(-1), 0);
        check.due("33: none", x.about(5), 0);
        check.due("33: nothing to share", x.estate(5, 0, false), -1);
        check.due("33: room again", x.claim(7), 1);
        check.due("33: the new one", x.estate(9, 0, false), 7);
        check.due("33: whole, as the others are gone", x.estate(9, 0, true), 1);
        check.due("33: half of it", x.estate(3, 0, false) * 10 + x.estate(3, 0, true), 31);
    }

    private static void share(int e, int k, int upper, int lower, int... claims) {
        Supplier<LeftGlove> made = () -> Scenes.claiming(claims);
        String name = "34: " + k + " of " + e + " by " + Arrays.toString(claims);
        check.idle(name + ", upper", made, x -> x.estate(e, k, false), upper);
        check.idle(name + ", lower", made, x -> x.estate(e, k, true), lower);
    }

    private static void promise34Estate() {
        int[][] others = {{-1, 0}, {10000, 0}, {100, -1}, {100, 2}, {100, 6}, {-1, -1}};
        for (int[] o : others) {
            check.idle("34: estate(" + o[0] + ", " + o[1] + ")", Scenes::lively, x -> x.estate(o[0], o[1], false), -1);
            check.idle("34: estate(" + o[0] + ", " + o[1] + ")", Scenes::lively, x -> x.estate(o[0], o[1], true), -1);
        }
        for (int far : Scenes.FAR) {
            check.idle("34: e " + far, Scenes::lively, x -> x.estate(far, 0, false), -1);
            check.idle("34: k " + far, Scenes::lively, x -> x.estate(100, far, true), -1);
        }
        check.idle("34: no CLAIMS", LeftGlove::new, x -> x.estate(0, 0, false), -1);
        check.idle("34: the sixth", BoundsPuzzlesTest::sixClaims, x -> x.estate(210, 5, false), 60);
        check.idle("34: no seventh", BoundsPuzzlesTest::sixClaims, x -> x.estate(210, 6, false), -1);
        share(0, 0, 0, 1, 100, 300);
        share(9999, 1, 300, 1, 100, 300);
        share(400, 0, 100, 1, 100, 300);
        share(401, 0, 100, 1, 100, 300);
        share(399, 0, 199, 2, 100, 300);
        share(399, 1, 599, 2, 100, 300);
        share(0, 0, 0, 1, 0);
        share(1, 0, 0, 1, 0);
        share(9999, 0, 0, 1, 0, 0, 0, 0, 0, 0);
        share(9999, 0, 9999, 1, 9999);
        share(5000, 0, 5000, 1, 9999);
        share(4999, 0, 4999, 1, 9999);
        share(9999, 5, 3333, 2, 9999, 9999, 9999, 9999, 9999, 9999);
        share(1, 5, 1, 6, 9999, 9999, 9999, 9999, 9999, 9999);
    }

    private static void promise34Half() {
        // half of all is 3/2: 1 is less, 2 is more
        share(1, 0, 1, 2, 1, 2);
        share(1, 1, 1, 2, 1, 2);
        share(2, 0, 1, 2, 1, 2);
        share(2, 1, 3, 2, 1, 2);
        // just half of all: each has half its claim
        share(3, 0, 1, 1, 2, 4);
        share(3, 1, 2, 1, 2, 4);
        share(300, 0, 50, 1, 100, 200, 300);
        share(300, 2, 150, 1, 100, 200, 300);
        // one less, one more: the last one has less, loses less
        share(299, 0, 50, 1, 100, 200, 300);
        share(299, 1, 100, 1, 100, 200, 300);
        share(299, 2, 149, 1, 100, 200, 300);
        share(301, 0, 50, 1, 100, 200, 300);
        share(301, 2, 151, 1, 100, 200, 300);
        // alike much till the first has half: 50 each
        share(150, 0, 50, 1, 100, 200, 300);
        share(150, 2, 50, 1, 100, 200, 300);
        share(149, 0, 149, 3, 100, 200, 300);
        share(151, 0, 50, 1, 100, 200, 300);
        share(151, 1, 101, 2, 100, 200, 300);
        // all lose alike till the first has half: 450
        share(450, 0, 50, 1, 100, 200, 300);
        share(450, 2, 250, 1, 100, 200, 300);
        share(451, 0, 151, 3, 100, 200, 300);
        share(449, 1, 299, 2, 100, 200, 300);
        // a claim of 0 has and loses nothing
        share(5, 0, 0, 1, 0, 10);
        share(5, 1, 5, 1, 0, 10);
        share(9, 1, 9, 1, 0, 10);
        share(9, 0, 0, 1, 0, 10);
    }

    private static void promise35Auction() {
        for (int glove : new int[] {0, 1, 3, 4, 5, 12, -1, -2, Integer.MIN_VALUE, Integer.MAX_VALUE}) {
            check.idle("35: auction(" + glove + ", false)", Scenes::lively, x -> x.auction(glove, false), -1);
            check.idle("35: auction(" + glove + ", true)", Scenes::lively, x -> x.auction(glove, true), -1);
        }
        // glove 2: MARK 0, WORK 8: 80 at most; COINS 12, 0, 3, 50
        check.idle("35: who", Scenes::lively, x -> x.auction(2, false), 3);
        check.idle("35: how much", Scenes::lively, x -> x.auction(2, true), 12);
        check.idle("35: no glove is there", Scenes::three, x -> x.auction(0, false), -1);
    }

    private static void auction(int work, int mark, int[] coins, int who, int paid) {
        Supplier<LeftGlove> made = () -> {
            LeftGlove x = new LeftGlove();
            for (int c : coins) {
                x.one(5, c);
            }
            x.bargain(0, 1, work, 0, mark);
            x.lose(0);
            return x;
        };
        String name = "35: WORK " + work + ", MARK " + mark + " of " + Arrays.toString(coins);
        check.idle(name + ", who", made, x -> x.auction(0, false), who);
        check.idle(name + ", how much", made, x -> x.auction(0, true), paid);
    }

    private static void promise35Bids() {
        auction(1, 0, new int[] {0, 0}, -1, -1);
        auction(1, 0, new int[] {0, 1}, 1, 0);
        auction(1, 0, new int[] {1, 0}, 0, 0);
        auction(1, 0, new int[] {1, 1}, 0, 1);
        // 10 at most
        auction(1, 0, new int[] {9, 10}, 1, 9);
        auction(1, 0, new int[] {10, 9}, 0, 9);
        auction(1, 0, new int[] {10, 10}, 0, 10);
        auction(1, 0, new int[] {10, 11}, 0, 10);
        auction(1, 0, new int[] {11, 9999}, 0, 10);
        auction(1, 0, new int[] {9, 9999}, 1, 9);
        // MARK and WORK together: 20, and 1080 at most
        auction(1, 1, new int[] {19, 20, 21}, 1, 20);
        auction(99, 9, new int[] {1079, 1080, 1081}, 1, 1080);
        auction(99, 9, new int[] {1079, 0, 9999}, 2, 1079);
        auction(99, 9, new int[] {1, 2, 3, 4, 5, 6, 7}, 6, 6);
        auction(99, 9, new int[] {7, 2, 3, 4, 5, 6, 7}, 0, 7);
        auction(99, 9, new int[] {0, 0, 0, 0, 0, 0, 7}, 6, 0);
    }

    private static LeftGlove sixLefts() {
        return Scenes.chest(new int[] {1, 2, 3, 4, 5, 6, 7}, 1, 0, 2, 0, 3, 0, 4, 0, 5, 0, 6, 1);
    }

    private static void promise36Chest() {
        int[][] others = {{0, 0}, {10, 0}, {5, -1}, {5, 9}, {-2, 0}, {0, 9}};
        for (int[] o : others) {
            check.idle("36: chest(" + o[0] + ", " + o[1] + ")", Scenes::lively, x -> x.chest(o[0], o[1]), -2);
        }
        for (int far : Scenes.FAR) {
            check.idle("36: size " + far, Scenes::lively, x -> x.chest(far, 1), -2);
            check.idle("36: t " + far, Scenes::lively, x -> x.chest(5, far), -2);
        }
        check.idle("36: if there are 6", BoundsPuzzlesTest::sixLefts, x -> x.chest(9, 8), -2);
        LeftGlove x = new LeftGlove();
        check.due("36: none of none", x.chest(-1, 0), 0);
        check.due("36: the least", x.chest(1, 0), 1);
        check.due("36: the most", x.chest(9, 8), 2);
        for (int i = 3; i <= 6; i++) {
            check.due("36: how many", x.chest(5, 5), i);
        }
        check.due("36: a seventh", x.chest(5, 5), -2);
        check.due("36: none any more", x.chest(-1, 0), 0);
        check.due("36: none", x.about(6), 0);
        check.due("36: room again", x.chest(5, 5), 1);
    }

    private static void promise37Lives() {
        for (int k : new int[] {2, 3, 6, -2, Integer.MIN_VALUE, Integer.MAX_VALUE}) {
            check.idle("37: lives(" + k + ")", Scenes::lively, x -> x.lives(k), -2);
        }
        check.idle("37: an empty chest", Scenes::sevenPeople, x -> x.lives(-1), 1);
        check.idle("37: has no first", Scenes::sevenPeople, x -> x.lives(0), -2);
        // hands 5 7 6 5: one within 1 of 6 (all), one of just 5 (0 or 3): 2 * 3
        check.idle("37: how many ways", Scenes::lively, x -> x.lives(-1), 6);
        check.idle("37: not sure", Scenes::lively, x -> x.lives(0), -1);
        check.idle("37: not sure", Scenes::lively, x -> x.lives(1), -1);
        // 6 by 1 is 7 or 6 (5 is taken)
        check.idle("37: two ways", BoundsPuzzlesTest::sixLefts, x -> x.lives(-1), 2);
        int[] sure = {0, 1, 2, 3, 4, -1};
        for (int k = 0; k < sure.length; k++) {
            int asked = k;
            check.idle("37: lives(" + k + ")", BoundsPuzzlesTest::sixLefts, x -> x.lives(asked), sure[k]);
        }
        check.idle("37: no seventh", BoundsPuzzlesTest::sixLefts, x -> x.lives(6), -2);
        int[] seven = {1, 2, 3, 4, 5, 6, 7};
        check.idle("37: the most", () -> Scenes.chest(seven, 5, 8, 5, 8, 5, 8, 5, 8, 5, 8, 5, 8), x -> x.lives(-1), 5040);
        check.idle("37: none for nobody", () -> Scenes.chest(new int[0], 5, 8), x -> x.lives(-1), 0);
        check.idle("37: nobody's is not sure", () -> Scenes.chest(new int[0], 5, 8), x -> x.lives(0), -1);
        check.idle("37: two lefts for one", () -> Scenes.chest(new int[] {5}, 5, 0, 5, 0), x -> x.lives(-1), 0);
        check.idle("37: no way, none is sure", () -> Scenes.chest(new int[] {5}, 5, 0, 5, 0), x -> x.lives(0), -1);
        check.idle("37: nor the other", () -> Scenes.chest(new int[] {5}, 5, 0, 5, 0), x -> x.lives(1), -1);
        check.idle("37: one for one", () -> Scenes.chest(new int[] {5}, 5, 0), x -> x.lives(0), 0);
        check.idle("37: t just enough", () -> Scenes.chest(new int[] {1, 1}, 9, 8), x -> x.lives(-1), 2);
        check.idle("37: t one too few", () -> Scenes.chest(new int[] {1, 1}, 9, 7), x -> x.lives(-1), 0);
        check.idle("37: sure by the others", () -> Scenes.chest(new int[] {5, 6}, 5, 1, 6, 0), x -> x.lives(0), 0);
        check.idle("37: not sure, by two ways", () -> Scenes.chest(new int[] {5, 6}, 5, 1, 6, 1), x -> x.lives(0), -1);
    }

    private static void promise38Frosts() {
        int[][] others = {{-1, 5, 1, 0}, {11, 5, 1, 0}, {5, -1, 1, 0}, {5, 11, 1, 0}, {5, 5, 0, 0}, {5, 5, 9, 0},
            {5, 5, 1, -1}, {5, 5, 1, 2}, {5, 5, 8, 9}, {5, 5, 8, -1}, {5, 5, -1, 0}, {5, 5, -1, -1}, {5, 5, 0, -1}};
        for (int[] o : others) {
            check.idle("38: frosts of " + Arrays.toString(o), Scenes::lively,
                x -> x.frosts(o[0], o[1], o[2], o[3], false), -1);
            check.idle("38: frosts of " + Arrays.toString(o), Scenes::lively,
                x -> x.frosts(o[0], o[1], o[2], o[3], true), -1);
        }
        for (int far : Scenes.FAR) {
            check.idle("38: c " + far, Scenes::three, x -> x.frosts(far, 5, 2, 1, false), -1);
            check.idle("38: d " + far, Scenes::three, x -> x.frosts(5, far, 2, 1, false), -1);
            check.idle("38: n " + far, Scenes::three, x -> x.frosts(5, 5, far, 1, true), -1);
            check.idle("38: k " + far, Scenes::three, x -> x.frosts(5, 5, 2, far, true), -1);
        }
    }

    private static void odds(int c, int d, int n, int k, int upper, int lower) {
        String name = "38: " + c + ", " + d + ", " + n + " days, " + k + " cold";
        check.idle(name + ", upper", Scenes::three, x -> x.frosts(c, d, n, k, false), upper);
        check.idle(name + ", lower", Scenes::three, x -> x.frosts(c, d, n, k, true), lower);
    }

    private static void promise38Odds() {
        // today is mild: just d counts for one day
        for (int c = 0; c <= 10; c += 10) {
            odds(c, 0, 1, 0, 1, 1);
            odds(c, 0, 1, 1, 0, 1);
            odds(c, 10, 1, 1, 1, 1);
            odds(c, 10, 1, 0, 0, 1);
            odds(c, 3, 1, 1, 3, 10);
            odds(c, 4, 1, 0, 3, 5);
        }
        // never two cold ones behind one another, or cold for ever
        odds(0, 10, 8, 4, 1, 1);
        odds(0, 10, 8, 5, 0, 1);
        odds(0, 10, 7, 4, 1, 1);
        odds(10, 10, 8, 8, 1, 1);
        odds(10, 0, 8, 0, 1, 1);
        odds(10, 5, 2, 2, 1, 2);
        odds(10, 5, 2, 1, 1, 4);
        odds(10, 5, 8, 0, 1, 256);
        // the most that a lower one can be
        odds(1, 1, 8, 8, 1, 100000000);
        odds(9, 9, 8, 0, 1, 100000000);
        odds(1, 1, 8, 0, 43046721, 100000000);
        odds(5, 5, 8, 0, 1, 256);
        odds(5, 5, 8, 8, 1, 256);
        odds(5, 5, 8, 4, 35, 128);
        LeftGlove x = new LeftGlove();
        for (int i = 0; i < 3; i++) {
            check.due("38: eight cold ones", x.frosts(10, 10, 8, 8, false), 1);
            check.due("38: asked behind it", x.frosts(5, 5, 8, 8, true), 256);
            check.due("38: of one day", x.frosts(5, 3, 1, 1, false), 3);
            check.due("38: of mild ones", x.frosts(5, 0, 8, 0, true), 1);
        }
    }
}
