/** Promises 26 to 38: prices and orders, whose it is, tries, weddings, estates, auctions, chests and frosts. */
public final class PuzzlesTest {
    private static final Check check = new Check();

    public static void main(String[] args) {
        prices();
        orders();
        whose();
        tests();
        tries();
        weddings();
        unrest();
        claims();
        estates();
        estatesInParts();
        auctions();
        chests();
        lives();
        frosts();
        check.close("PuzzlesTest");
    }

    private static void prices() {
        LeftGlove x = Check.people(5, 20, 7, 3);
        check.due("glove -1", x.price(-1, 1), false);
        check.due("glove 12", x.price(12, 1), false);
        check.due("price -1", x.price(0, -1), false);
        check.due("price 10", x.price(0, 10), false);
        check.due("there or not", x.price(11, 9), true);
        check.due("price 0", x.price(0, 0), true);
        x.bargain(0, 1, 5, 0, 0);
        check.due("told ahead of it", x.order(0, -1), 0);
        x.price(0, 3);
        check.due("told anew", x.order(0, -1), 15);
        x.undo();
        x.bargain(0, 1, 5, 0, 0);
        check.due("not taken back", x.order(0, -1), 15);
    }

    private static void order(LeftGlove x, int one, int cost, int... gloves) {
        check.due("order(" + one + ", NONE)", x.order(one, -1), cost);
        for (int i = 0; i < gloves.length; i++) {
            check.due("order(" + one + ", " + i + ")", x.order(one, i), gloves[i]);
        }
        check.due("order(" + one + ", " + gloves.length + ")", x.order(one, gloves.length), -2);
    }

    private static void orders() {
        LeftGlove x = Check.people(5, 20, 7, 3, 6, 0);
        order(x, 0, 0);
        check.due("nobody", x.order(3, -1), -2);
        check.due("-1", x.order(-1, -1), -2);
        check.due("i -2", x.order(0, -2), -2);
        x.bargain(0, 1, 6, 0, 0);
        x.bargain(1, 0, 1, 0, 0);
        x.bargain(0, 2, 2, 0, 0);
        x.bargain(0, 1, 4, 0, 0);
        x.bargain(0, 1, 2, 0, 0);
        // 2, 2, 4, 6: 2 + 4 + 8 + 14
        order(x, 0, 28, 2, 4, 3, 0);
        x.price(0, 3);
        // 6 at 3 is like 2 at 1: 0, 2, 4, 3: 18 + 8 + 10 + 14
        order(x, 0, 50, 0, 2, 4, 3);
        x.price(2, 0);
        // 0, 4, 3, 2: 18 + 8 + 12 + 0
        order(x, 0, 38, 0, 4, 3, 2);
        x.pledge(4);
        x.lose(3);
        x.price(2, 1);
        // a pawned one is a duty, a lost one none: 0, 2, 4: 18 + 8 + 10
        order(x, 0, 36, 0, 2, 4);
        x.work(0, 6);
        order(x, 0, 6, 2, 4);
        for (int glove = 0; glove < 12; glove++) {
            x.price(glove, 0);
        }
        order(x, 0, 0, 2, 4);
        LeftGlove y = Check.people(5, 20, 7, 3);
        for (int glove = 0; glove < 12; glove++) {
            y.bargain(0, 1, 1, 0, 0);
        }
        // every price is 1 at first: 1 + 2 + .. + 12
        order(y, 0, 78, 0, 1, 2, 3, 4, 5, 6, 7, 8, 9, 10, 11);
        y.price(11, 2);
        order(y, 0, 79, 11, 0, 1, 2, 3, 4, 5, 6, 7, 8, 9, 10);
    }

    private static void whose() {
        LeftGlove x = Check.people(1, 0, 4, 0, 6, 0, 9, 0);
        check.due("just so", x.whose(4, 0), 2);
        check.due("none", x.whose(5, 0), 0);
        check.due("on both sides", x.whose(5, 1), 6);
        check.due("by three", x.whose(4, 3), 7);
        check.due("all", x.whose(9, 8), 15);
        check.due("size 1", x.whose(1, 0), 1);
        check.due("size 9", x.whose(9, 0), 8);
        check.due("size 0", x.whose(0, 1), -1);
        check.due("size 10", x.whose(10, 1), -1);
        check.due("t -1", x.whose(5, -1), -1);
        check.due("t 9", x.whose(5, 9), -1);
        check.due("of nobody", new LeftGlove().whose(5, 8), 0);
    }

    private static void tests() {
        LeftGlove x = new LeftGlove();
        check.due("128", x.test(128), -2);
        check.due("-2", x.test(-2), -2);
        check.due("0", x.test(0), 1);
        check.due("127", x.test(127), 2);
        check.due("the same", x.test(127), 3);
        check.due("none any more", x.test(-1), 0);
        for (int i = 1; i <= 8; i++) {
            check.due("test " + i, x.test(i), i);
        }
        check.due("a ninth", x.test(1), -2);
        check.due("eight", x.about(4), 8);
    }

    private static void tries() {
        LeftGlove x = Check.people(5, 0, 5, 0, 5, 0, 5, 0, 5, 0, 5, 0, 5, 0);
        check.due("one alone", x.tries(64, false), 0);
        check.due("none is needed", x.tries(64, true), -1);
        check.due("two can't be told apart", x.tries(3, false), -2);
        check.due("nor a first test", x.tries(3, true), -2);
        for (int one = 0; one < 6; one++) {
            x.test(1 << one);
        }
        check.due("one by one", x.tries(127, false), 6);
        check.due("any first: the lowest", x.tries(127, true), 0);
        check.due("of two", x.tries(48, false), 1);
        check.due("the lowest that parts them", x.tries(48, true), 4);
        x.test(15);
        check.due("halves help", x.tries(127, false), 4);
        check.due("a single one first is as good", x.tries(127, true), 0);
        x.test(7 + 8 + 16);
        check.due("0", x.tries(0, false), -2);
        check.due("128", x.tries(128, false), -2);
        check.due("-1", x.tries(-1, true), -2);
        LeftGlove y = Check.people(5, 0, 5, 0, 5, 0);
        y.test(1);
        y.test(127);
        check.due("1 and 2 can't be told apart", y.tries(7, false), -2);
        check.due("0 and 1 can", y.tries(3, false), 1);
        check.due("one who isn't told", y.tries(8, false), -2);
        check.due("nor among others", y.tries(9, false), -2);
        // Behind a yes to 3 of {0, 1, 2, 3} test 1 parts it, behind a no test 2 does: two tries
        LeftGlove z = Check.people(5, 0, 5, 0, 5, 0, 5, 0);
        z.test(2);
        z.test(4);
        z.test(3);
        check.due("each next by what was said", z.tries(15, false), 2);
        check.due("the first of them", z.tries(15, true), 2);
    }

    private static void weds(LeftGlove x, int m, int... mates) {
        for (int one = 0; one < mates.length; one++) {
            check.due("weds(" + m + ", " + one + ")", x.weds(m, one), mates[one]);
        }
    }

    private static void weddings() {
        LeftGlove x = Check.people(1, 0, 2, 0, 3, 0, 2, 0);
        // 2 asks 3 (far 1), 1 asks 3 (far 0) and is kept, 0 asks 3 in vain
        weds(x, 3, -1, 3, -1, 1);
        // 0 and 1 ask: 0 would have 3 (1 far) as 1 would; 3 keeps 1, so 0 goes on to 2
        weds(x, 2, 2, 3, 0, 1);
        // 0 asks the nearest: 1 and 3 are alike, the lowest
        weds(x, 1, 1, 0, -1, -1);
        check.due("m 0", x.weds(0, 1), -1);
        check.due("m 4 needs one more", x.weds(4, 0), -1);
        check.due("m 7", x.weds(7, 0), -1);
        check.due("nobody", x.weds(1, 4), -1);
        check.due("-1", x.weds(1, -1), -1);
        x.one(2, 0);
        check.due("with a fifth m 4 can be", x.weds(4, 1), 4);
        LeftGlove y = Check.people(5, 0, 5, 0, 5, 0, 5, 0, 5, 0, 5, 0);
        weds(y, 3, 3, 4, 5, 0, 1, 2);
        // who is kept first may be left for a nearer one and asks on
        LeftGlove z = Check.people(4, 0, 5, 0, 5, 0, 9, 0);
        weds(z, 2, 3, 2, 1, 0);
    }

    private static void unrest() {
        LeftGlove x = Check.people(1, 0, 2, 0, 3, 0, 2, 0);
        check.due("as wed", x.unrest(2, 2, 3, 9, 9, 9, 9), 0);
        // 1 and 3 are nearest to one another
        check.due("crosswise", x.unrest(2, 3, 2, 0, 0, 0, 0), 1);
        check.due("all alone", x.unrest(2, -1, -1, 0, 0, 0, 0), 4);
        // 0 alone would go to 2, who is alone, and to 3, who has 1 (0 far) and would not
        check.due("one alone", x.unrest(2, -1, 3, 0, 0, 0, 0), 1);
        // 0 has 3; 1 alone would have 2 (alone) and 3, who would rather have 1; 0 wouldn't go to 2
        check.due("the other alone", x.unrest(2, 3, -1, 0, 0, 0, 0), 2);
        check.due("one twice", x.unrest(2, 3, 3, 0, 0, 0, 0), -1);
        check.due("one below m", x.unrest(2, 1, 3, 0, 0, 0, 0), -1);
        check.due("nobody", x.unrest(2, 4, 3, 0, 0, 0, 0), -1);
        check.due("-2", x.unrest(2, -2, 3, 0, 0, 0, 0), -1);
        check.due("m 0", x.unrest(0, 3, 3, 0, 0, 0, 0), -1);
        check.due("m 4", x.unrest(4, -1, -1, -1, -1, -1, -1), -1);
        check.due("m 7", x.unrest(7, -1, -1, -1, -1, -1, -1), -1);
        LeftGlove y = Check.people(1, 0, 2, 0, 3, 0, 4, 0, 5, 0, 6, 0, 7, 0);
        check.due("six and one", y.unrest(6, -1, -1, -1, -1, -1, 6), 0);
        check.due("the far one has it", y.unrest(6, 6, -1, -1, -1, -1, -1), 5);
        check.due("the second has it", y.unrest(6, -1, 6, -1, -1, -1, -1), 4);
        check.due("the third has it", y.unrest(6, -1, -1, 6, -1, -1, -1), 3);
        check.due("the fourth has it", y.unrest(6, -1, -1, -1, 6, -1, -1), 2);
        check.due("the fifth has it", y.unrest(6, -1, -1, -1, -1, 6, -1), 1);
        check.due("the sixth of the row counts", y.unrest(6, 6, -1, -1, -1, -1, 6), -1);
        check.due("behind m it doesn't", y.unrest(5, 6, 5, -1, -1, -1, 6), y.unrest(5, 6, 5, -1, -1, -1, -1));
    }

    private static void claims() {
        LeftGlove x = new LeftGlove();
        check.due("10000", x.claim(10000), -2);
        check.due("-2", x.claim(-2), -2);
        for (int i = 1; i <= 6; i++) {
            check.due("claim " + i, x.claim(i == 1 ? 0 : 9999), i);
        }
        check.due("a seventh", x.claim(1), -2);
        check.due("none any more", x.claim(-1), 0);
        check.due("none", x.about(5), 0);
    }

    private static LeftGlove claiming(int... claims) {
        LeftGlove x = new LeftGlove();
        for (int claim : claims) {
            x.claim(claim);
        }
        return x;
    }

    private static void share(LeftGlove x, int e, int k, int upper, int lower) {
        check.due("estate(" + e + ", " + k + ", false)", x.estate(e, k, false), upper);
        check.due("estate(" + e + ", " + k + ", true)", x.estate(e, k, true), lower);
    }

    private static void estates() {
        LeftGlove x = claiming(300, 100, 200);
        share(x, 100, 1, 100, 3);
        share(x, 200, 1, 50, 1);
        share(x, 200, 0, 75, 1);
        share(x, 300, 0, 150, 1);
        share(x, 300, 1, 50, 1);
        share(x, 300, 2, 100, 1);
        share(x, 500, 0, 800, 3);
        share(x, 500, 1, 200, 3);
        share(x, 600, 0, 300, 1);
        share(x, 9999, 1, 100, 1);
        share(x, 0, 0, 0, 1);
        check.due("e -1", x.estate(-1, 0, false), -1);
        check.due("e 10000", x.estate(10000, 0, false), -1);
        check.due("k 3", x.estate(1, 3, false), -1);
        check.due("k -1", x.estate(1, -1, false), -1);
        check.due("no claims", new LeftGlove().estate(0, 0, false), -1);
    }

    private static void estatesInParts() {
        // the contested garment: one claims all, the other half
        LeftGlove x = claiming(2, 1);
        share(x, 2, 0, 3, 2);
        share(x, 2, 1, 1, 2);
        share(x, 1, 0, 1, 2);
        share(claiming(0, 5), 5, 0, 0, 1);
        share(claiming(0, 5), 5, 1, 5, 1);
        share(claiming(0, 5), 2, 1, 2, 1);
        share(claiming(0), 0, 0, 0, 1);
        share(claiming(0), 7, 0, 0, 1);
        // 1 of six: a sixth each; 2 of 1 1 1 9 9 9 at half a coin: halves, the others (1/2) / 3
        share(claiming(9, 9, 9, 9, 9, 9), 1, 5, 1, 6);
        share(claiming(1, 1, 1, 9, 9, 9), 2, 0, 1, 3);
        share(claiming(1, 1, 1, 9, 9, 9), 4, 0, 1, 2);
        share(claiming(1, 1, 1, 9, 9, 9), 4, 4, 5, 6);
        // 30 in all, 28 given: all lose a third; 26: the ones lose a half each, the nines 5/6
        share(claiming(1, 1, 1, 9, 9, 9), 28, 0, 2, 3);
        share(claiming(1, 1, 1, 9, 9, 9), 28, 4, 26, 3);
        share(claiming(1, 1, 1, 9, 9, 9), 26, 2, 1, 2);
        share(claiming(1, 1, 1, 9, 9, 9), 26, 3, 49, 6);
        share(claiming(9999, 9999, 9999, 9999, 9999, 9999), 9999, 0, 3333, 2);
    }

    private static void auctions() {
        LeftGlove x = Check.people(5, 20, 7, 300, 6, 0, 5, 45, 5, 60);
        x.bargain(0, 1, 3, 0, 2);
        check.due("one that isn't lost", x.auction(0, false), -1);
        x.lose(0);
        // 50 at most: 20, 50, -, 45, 50
        check.due("the lowest of like ones", x.auction(0, false), 1);
        check.due("pays what the second bids", x.auction(0, true), 50);
        check.due("no such glove", x.auction(1, false), -1);
        check.due("-1", x.auction(-1, true), -1);
        LeftGlove y = Check.people(5, 0, 7, 0);
        y.bargain(0, 1, 3, 0, 2);
        y.lose(0);
        check.due("nobody bids", y.auction(0, false), -1);
        check.due("nor pays", y.auction(0, true), -1);
        y.one(3, 7);
        check.due("who bids alone", y.auction(0, false), 2);
        check.due("pays nothing", y.auction(0, true), 0);
        y.one(3, 9);
        check.due("the highest", y.auction(0, false), 3);
        check.due("pays the second", y.auction(0, true), 7);
        check.due("nothing is changed", y.of(3, 1), 9);
        LeftGlove z = Check.people(5, 1, 7, 0, 5, 2);
        z.bargain(0, 1, 99, 0, 9);
        z.lose(0);
        check.due("two coins win", z.auction(0, false), 2);
        check.due("one coin is a bid", z.auction(0, true), 1);
    }

    private static void chests() {
        LeftGlove x = new LeftGlove();
        check.due("size 0", x.chest(0, 1), -2);
        check.due("size 10", x.chest(10, 1), -2);
        check.due("size -2", x.chest(-2, 1), -2);
        check.due("t -1", x.chest(1, -1), -2);
        check.due("t 9", x.chest(1, 9), -2);
        for (int i = 1; i <= 6; i++) {
            check.due("left " + i, x.chest(9, 8), i);
        }
        check.due("a seventh", x.chest(9, 8), -2);
        check.due("none any more, whatever t", x.chest(-1, 99), 0);
        check.due("none", x.about(6), 0);
    }

    private static void lives() {
        LeftGlove x = Check.people(1, 0, 2, 0, 3, 0, 4, 0, 5, 0, 6, 0, 7, 0);
        check.due("an empty chest", x.lives(-1), 1);
        check.due("has no left", x.lives(0), -2);
        for (int i = 0; i < 6; i++) {
            x.chest(5, 8);
        }
        check.due("7 * 6 * 5 * 4 * 3 * 2", x.lives(-1), 5040);
        check.due("none is sure", x.lives(5), -1);
        check.due("lives(6)", x.lives(6), -2);
        check.due("lives(-2)", x.lives(-2), -2);
        x.chest(-1, 0);
        x.chest(3, 1);
        x.chest(2, 0);
        x.chest(4, 0);
        check.due("one way", x.lives(-1), 1);
        check.due("3 is sure by the others", x.lives(0), 2);
        check.due("2", x.lives(1), 1);
        check.due("4", x.lives(2), 3);
        x.chest(4, 1);
        check.due("4 by one is 5", x.lives(3), 4);
        x.chest(3, 0);
        check.due("no way", x.lives(-1), 0);
        check.due("nobody is sure", x.lives(1), -1);
        check.due("without people", emptyWays(), 0);
    }

    private static int emptyWays() {
        LeftGlove x = new LeftGlove();
        x.chest(5, 8);
        return x.lives(-1);
    }

    private static void odds(int c, int d, int n, int k, int upper, int lower) {
        LeftGlove x = new LeftGlove();
        check.due("frosts upper " + c + d + n + k, x.frosts(c, d, n, k, false), upper);
        check.due("frosts lower " + c + d + n + k, x.frosts(c, d, n, k, true), lower);
    }

    private static void frosts() {
        odds(5, 5, 1, 0, 1, 2);
        odds(9, 2, 1, 1, 1, 5);
        odds(9, 2, 1, 0, 4, 5);
        // cold cold: .2 * .9 = .18; cold mild and mild cold: .02 + .16 = .18; mild mild: .64
        odds(9, 2, 2, 2, 9, 50);
        odds(9, 2, 2, 1, 9, 50);
        odds(9, 2, 2, 0, 16, 25);
        odds(10, 10, 8, 8, 1, 1);
        odds(10, 10, 8, 7, 0, 1);
        odds(0, 0, 8, 0, 1, 1);
        odds(10, 0, 8, 8, 0, 1);
        odds(0, 10, 8, 4, 1, 1);
        odds(3, 1, 8, 8, 2187, 100000000);
        odds(5, 5, 8, 4, 35, 128);
        LeftGlove x = new LeftGlove();
        check.due("c -1", x.frosts(-1, 0, 1, 0, false), -1);
        check.due("c 11", x.frosts(11, 0, 1, 0, false), -1);
        check.due("d -1", x.frosts(0, -1, 1, 0, false), -1);
        check.due("d 11", x.frosts(0, 11, 1, 0, true), -1);
        check.due("n 0", x.frosts(1, 1, 0, 0, true), -1);
        check.due("n 9", x.frosts(1, 1, 9, 0, true), -1);
        check.due("k -1", x.frosts(1, 1, 3, -1, true), -1);
        check.due("k above n", x.frosts(1, 1, 3, 4, true), -1);
    }
}
