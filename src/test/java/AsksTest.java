/** Promises 19 to 25 and 39 to 47: what is asked of people, gloves, days, the book, rounds and laws; the image. */
public final class AsksTest {
    private static final Check check = new Check();

    public static void main(String[] args) {
        ofPeople();
        ofGloves();
        isWhat();
        book();
        lateFines();
        foretold();
        firstFine();
        free();
        rings();
        richest();
        grownAndWhoseLaw();
        fined();
        pairs();
        coldest();
        images();
        check.close("AsksTest");
    }

    private static void ofPeople() {
        LeftGlove x = Check.people(5, 20, 7, 3, 6, 0);
        x.bargain(0, 1, 5, 0, 0);
        x.bargain(0, 2, 7, 0, 0);
        x.bargain(2, 0, 11, 0, 0);
        x.bargain(1, 0, 30, 0, 0);
        x.bargain(1, 0, 50, 0, 0);
        x.pledge(2);
        x.lose(3);
        x.lose(4);
        int[] due = {5, 25, 0, 2, 0, 0, 2, -1};
        for (int what = 0; what < due.length; what++) {
            check.due("of(0, " + what + ")", x.of(0, what), due[what]);
        }
        check.due("SUM of 1", x.of(1, 7), 5);
        check.due("SUM of 2: a pawned one is owed to 0", x.of(2, 7), -4);
        check.due("fine as law says, coins or not", x.of(2, 6), 1);
        check.due("of(0, 8)", x.of(0, 8), -100000);
        check.due("of(0, -1)", x.of(0, -1), -100000);
        check.due("of(3, 0)", x.of(3, 0), -100000);
        check.due("of(-1, 0)", x.of(-1, 0), -100000);
    }

    private static void ofGloves() {
        LeftGlove x = Check.people(5, 20, 7, 3);
        x.bargain(1, 0, 9, 2, 4);
        int[] due = {1, 0, 9, 2, 4, 7, 0, 1, 4};
        for (int what = 0; what < due.length; what++) {
            check.due("ofGlove(0, " + what + ")", x.ofGlove(0, what), due[what]);
        }
        check.due("ofGlove(0, 9)", x.ofGlove(0, 9), -1);
        check.due("ofGlove(0, -1)", x.ofGlove(0, -1), -1);
        check.due("ofGlove(1, 0)", x.ofGlove(1, 0), -1);
        check.due("ofGlove(-1, 0)", x.ofGlove(-1, 0), -1);
        x.lose(0);
        check.due("a lost one's pawn", x.ofGlove(0, 8), 4);
        x.undo();
        x.undo();
        check.due("taken back", x.ofGlove(0, 0), -1);
    }

    private static void isWhat() {
        LeftGlove x = Check.people(5, 20, 7, 3);
        x.bargain(1, 0, 9, 2, 4);
        x.day(2);
        check.due("DAY", x.is(0), 2);
        check.due("FROST", x.is(1), 1);
        check.due("X", x.is(2), 25326);
        check.due("GLOVES", x.is(3), 1);
        check.due("is(4)", x.is(4), -2);
        check.due("is(-1)", x.is(-1), -2);
    }

    private static void book() {
        LeftGlove x = Check.people(5, 2000, 7, 3000, 9, 40);
        x.bargain(1, 0, 50, 2, 4);
        x.bargain(0, 1, 50, 2, 4);
        Check.text(x, "fine who*50+day+1;");
        x.by(0);
        x.day(2);
        int[][] due = {{0, 0, 1}, {0, 1, 51}, {1, 0, 2}, {1, 1, 52}};
        check.due("how many", x.book(-1, 0), 4);
        for (int i = 0; i < 4; i++) {
            for (int what = 0; what < 3; what++) {
                check.due("book(" + i + ", " + what + ")", x.book(i, what), due[i][what]);
            }
        }
        check.due("book(4, 0)", x.book(4, 0), -2);
        check.due("book(-2, 0)", x.book(-2, 0), -2);
        check.due("book(0, 3)", x.book(0, 3), -2);
        check.due("book(0, -1)", x.book(0, -1), -2);
        x.day(18);
        check.due("the latest thirty", x.book(-1, 0), 30);
        check.due("the eldest of them", x.book(0, 0), 5);
        check.due("who", x.book(0, 1), 0);
        check.due("how much", x.book(0, 2), 6);
        check.due("the latest", x.book(29, 0), 19);
        check.due("book(30, 0)", x.book(30, 0), -2);
        x.undo();
        check.due("as ahead of the last day", x.book(0, 0), 4);
        check.due("its last", x.book(29, 2), 69);
    }

    private static void lateFines() {
        LeftGlove x = new LeftGlove();
        for (int i = 0; i < 7; i++) {
            x.one(5, 9999);
        }
        x.bargain(6, 0, 9, 0, 0);
        Check.text(x, "fine if day>9997 then 99 else 0 end;");
        x.by(0);
        for (int i = 0; i < 166; i++) {
            x.day(60);
        }
        x.day(39);
        check.due("one fine", x.book(-1, 0), 1);
        check.due("on the last day but one", x.book(0, 0), 9998);
        check.due("who", x.book(0, 1), 6);
        check.due("how much", x.book(0, 2), 99);
    }

    private static void foretold() {
        LeftGlove x = Check.people(5, 5, 7, 3);
        x.bargain(0, 1, 50, 2, 4);
        x.bargain(0, 1, 50, 2, 4);
        check.due("FROST, whoever", x.foretold(1, 99, 0), 9);
        check.due("FROST, nobody", x.foretold(2, -5, 0), 1);
        check.due("COINS", x.foretold(2, 0, 2), 1);
        check.due("COINS", x.foretold(60, 0, 2), 0);
        check.due("COLD: no hand is bare", x.foretold(60, 0, 1), 0);
        x.lose(0);
        check.due("COLD behind a day of frost 0", x.foretold(1, 0, 1), 0);
        check.due("COLD behind one of frost 9", x.foretold(2, 0, 1), 9);
        check.due("COLD behind one of frost 1", x.foretold(3, 0, 1), 10);
        check.due("n 0", x.foretold(0, 0, 0), -1);
        check.due("n 61", x.foretold(61, 0, 0), -1);
        check.due("what 3", x.foretold(1, 0, 3), -1);
        check.due("what -1", x.foretold(1, 0, -1), -1);
        check.due("COLD of nobody", x.foretold(1, 2, 1), -1);
        check.due("COINS of nobody", x.foretold(1, -1, 2), -1);
        check.due("nothing is changed", x.is(0) + x.of(0, 2) + x.book(-1, 0), 0);
    }

    private static void firstFine() {
        LeftGlove x = Check.people(5, 5, 7, 3, 2, 0);
        x.bargain(0, 1, 50, 2, 4);
        x.bargain(2, 1, 50, 2, 4);
        Check.text(x, "fine day-5;");
        Check.text(x, "fine day-59;");
        Check.text(x, "fine if day>58 then 1 else 0 end;");
        check.due("tomorrow", x.firstFine(0), 1);
        check.due("no rights", x.firstFine(1), -1);
        check.due("no coins", x.firstFine(2), -1);
        check.due("nobody", x.firstFine(3), -1);
        check.due("-1", x.firstFine(-1), -1);
        x.by(0);
        check.due("on day 6, the seventh", x.firstFine(0), 7);
        x.by(1);
        check.due("on day 60, too late", x.firstFine(0), -1);
        x.by(2);
        check.due("on day 59, the sixtieth", x.firstFine(0), 60);
        x.day(5);
        check.due("five fewer", x.firstFine(0), 55);
        check.due("nothing is changed", x.is(0), 5);
    }

    private static void free() {
        LeftGlove x = Check.people(5, 5, 7, 3, 2, 0);
        check.due("all", x.free(), 7);
        x.bargain(1, 0, 2, 0, 0);
        check.due("but one", x.free(), 5);
        x.pledge(0);
        check.due("pawned ones are rights", x.free(), 5);
        x.work(0, 2);
        check.due("done ones aren't", x.free(), 7);
        check.due("of nobody", new LeftGlove().free(), 0);
    }

    private static void rings() {
        LeftGlove x = Check.people(5, 5, 7, 3, 2, 0, 3, 0, 4, 0, 5, 0, 6, 0);
        for (int one = 0; one < 6; one++) {
            x.bargain(one, one + 1, 9, 0, 0);
        }
        check.due("no round", x.ring(), 0);
        x.bargain(6, 0, 9, 0, 0);
        check.due("all seven", x.ring(), 127);
        x.bargain(3, 0, 9, 0, 0);
        check.due("0 1 2 3 0", x.ring(), 1 + 2 + 4 + 128);
        x.bargain(6, 3, 9, 0, 0);
        check.due("of four too, but higher", x.ring(), 1 + 2 + 4 + 128);
        x.bargain(2, 1, 9, 0, 0);
        check.due("of two", x.ring(), 2 + 512);
        x.bargain(1, 0, 9, 0, 0);
        check.due("of two, a higher one", x.ring(), 2 + 512);
        x.bargain(2, 1, 9, 0, 0);
        check.due("like ones", x.ring(), 2 + 512);
        x.lose(9);
        check.due("lost ones are none", x.ring(), 1 + 1024);
        x.pledge(10);
        check.due("nor pawned ones", x.ring(), 2 + 2048);
        x.work(11, 9);
        check.due("nor done ones", x.ring(), 1 + 2 + 4 + 128);
        // the lowest set, not the lowest first glove
        LeftGlove y = Check.people(5, 5, 7, 3, 2, 0, 3, 0);
        y.bargain(0, 1, 9, 0, 0);
        y.bargain(2, 3, 9, 0, 0);
        y.bargain(3, 2, 9, 0, 0);
        y.bargain(1, 0, 9, 0, 0);
        check.due("6 is below 9", y.ring(), 6);
    }

    private static void richest() {
        LeftGlove x = Check.people(5, 5, 7, 3, 2, 0);
        check.due("nobody has lefts", x.richest(), -1);
        x.bargain(0, 1, 9, 0, 0);
        x.bargain(0, 2, 5, 0, 0);
        check.due("9 is most", x.richest(), 1);
        x.bargain(1, 2, 5, 0, 0);
        check.due("5 and 5 are more", x.richest(), 2);
        x.work(2, 1);
        check.due("9 each: the lowest", x.richest(), 1);
        x.pledge(0);
        check.due("a pawned one is no left", x.richest(), 2);
        x.lose(1);
        x.lose(2);
        check.due("lost ones neither", x.richest(), -1);
        x.bargain(0, 2, 1, 0, 0);
        check.due("a little is enough", x.richest(), 2);
    }

    private static void grownAndWhoseLaw() {
        LeftGlove x = Check.people(5, 5, 7, 3, 2, 0);
        check.due("no such glove", x.grown(0, 1), -2);
        x.bargain(0, 1, 9, 2, 0);
        x.bargain(1, 0, 9, 1, 0);
        check.due("no texts", x.whoseLaw(), 0);
        Check.text(x, "grows leather;");
        Check.text(x, "grows 2-from;");
        Check.text(x, "chill 2;");
        Check.text(x, "grows 99;");
        check.due("all, where nothing is told", x.whoseLaw(), 15);
        check.due("more -1", x.grown(0, -1), -2);
        check.due("more 10", x.grown(0, 10), -2);
        check.due("glove 2", x.grown(2, 0), -2);
        check.due("glove -2", x.grown(-2, 0), -2);
        check.due("0 by 2", x.grown(0, 2), 1);
        check.due("two of them", x.whoseLaw(), 3);
        check.due("1 by 1", x.grown(1, 1), 2);
        check.due("two of them yet", x.whoseLaw(), 3);
        check.due("none any more", x.grown(-1, 99), 0);
        x.grown(1, 1);
        check.due("without a law it is 1", x.whoseLaw(), 7);
        x.grown(-1, 0);
        x.grown(0, 9);
        check.due("9 at most", x.whoseLaw(), 8);
        check.due("by 0", x.grown(0, 0), 2);
        check.due("not by both", x.whoseLaw(), 0);
        x.grown(-1, 0);
        x.grown(0, 9);
        x.grown(1, 1);
        check.due("none", x.whoseLaw(), 0);
        x.undo();
        check.due("taken back, it is aside", x.whoseLaw(), 8);
        check.due("told yet", x.about(7), 2);
        x.bargain(1, 2, 3, 1, 0);
        check.due("there again", x.whoseLaw(), 0);
        for (int i = 3; i <= 8; i++) {
            check.due("grown " + i, x.grown(0, 9), i);
        }
        check.due("a ninth", x.grown(0, 9), -2);
        x.lose(0);
        check.due("a lost one would grow so too", x.grown(-1, 0) + x.grown(0, 2) + x.whoseLaw(), 0 + 1 + 3);
    }

    private static void fined() {
        LeftGlove x = Check.people(5, 200, 7, 300, 2, 0);
        x.bargain(0, 1, 9, 2, 0);
        x.bargain(0, 1, 9, 2, 0);
        x.bargain(1, 0, 9, 1, 0);
        x.day(3);
        check.due("one", x.fined(0), 6);
        check.due("another", x.fined(1), 3);
        check.due("who never was", x.fined(2), 0);
        check.due("all", x.fined(-1), 9);
        check.due("nobody", x.fined(3), -2);
        check.due("-2", x.fined(-2), -2);
        x.day(57);
        check.due("by what the book has yet", x.fined(-1), 45);
    }

    private static void pairs() {
        LeftGlove x = Check.people(5, 200, 7, 300, 5, 0);
        check.due("none", x.pairs(), 0);
        x.bargain(0, 1, 9, 2, 0);
        x.bargain(2, 1, 8, 2, 1);
        check.due("two of size 5", x.pairs(), 1);
        x.bargain(1, 0, 9, 2, 0);
        x.bargain(0, 1, 9, 1, 0);
        check.due("another size, another leather", x.pairs(), 1);
        x.bargain(0, 1, 9, 2, 0);
        check.due("three make three", x.pairs(), 3);
        x.pledge(4);
        check.due("pawned ones are open", x.pairs(), 3);
        x.lose(1);
        check.due("lost ones aren't", x.pairs(), 1);
        x.work(0, 9);
        check.due("nor done ones", x.pairs(), 0);
    }

    private static void coldest() {
        LeftGlove x = new LeftGlove();
        check.due("nobody", x.coldest(), -1);
        x.one(5, 5);
        x.one(6, 5);
        x.one(7, 5);
        check.due("none is cold: the lowest", x.coldest(), 0);
        x.bargain(0, 2, 9, 0, 0);
        x.day(2);
        check.due("two bare hands", x.coldest(), 1);
        Check.text(x, "chill if who=2 then 99 else 0 end;");
        x.by(0);
        x.day(1);
        check.due("by the law", x.coldest(), 2);
    }

    private static void images() {
        LeftGlove x = Check.people(5, 20, 7, 3);
        x.bargain(0, 1, 9, 0, 0);
        Check.text(x, "fine 3;");
        x.by(0);
        x.price(0, 5);
        x.test(1);
        x.claim(7);
        x.chest(5, 0);
        x.grown(0, 1);
        x.day(2);
        check.due("image()", x.image(), 2);
        Check.text(x, "fine 1;lose;");
        Check.text(x, "fine 2;");
        x.by(1);
        Check.tape(x, "chill");
        x.one(8, 8);
        x.price(0, 1);
        x.test(-1);
        x.claim(-1);
        x.chest(-1, 0);
        x.grown(-1, 0);
        x.day(40);
        x.winters(5, 40);
        check.due("back()", x.back(), 2);
        int[] due = {2, 1, 0, 3, 1, 1, 1, 1, 5};
        for (int what = 0; what < due.length; what++) {
            check.due("about(" + what + ") as then, but the tape", x.about(what), due[what]);
        }
        check.due("the latest fault stays", x.fault(0), 0);
        check.due("COINS", x.of(0, 1), 14);
        check.due("DAY", x.is(0), 2);
        check.due("X", x.is(2), 25326);
        check.due("GLOVES", x.is(3), 1);
        check.due("BOOK", x.book(-1, 0), 2);
        check.due("the price", x.order(0, -1), 45);
        check.due("the law", x.of(0, 6), 3);
        check.due("the claim", x.estate(7, 0, false), 7);
        check.due("the chest", x.lives(0), 0);
        check.due("a step of then", x.undo(), 2);
        check.due("DAY", x.is(0), 1);
        check.due("a text anew", Check.text(x, "fine 9;"), 1);
        x.by(1);
        check.due("its law", x.of(0, 6), 9);
        check.due("back() again, it stays", x.back(), 2);
        check.due("the law of then", x.of(0, 6), 3);
        x.undo();
        x.undo();
        x.undo();
        check.due("no glove", x.is(3), 0);
        check.due("image() anew", x.image(), 0);
        x.day(1);
        check.due("back() to the new one", x.back(), 0);
        check.due("no step", x.undo(), -1);
        x.text();
        Check.text(x, "oops");
        x.back();
        check.due("a fault stays behind back()", x.fault(0), 1);
    }
}
