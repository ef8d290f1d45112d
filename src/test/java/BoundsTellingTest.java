import java.util.function.Supplier;

/** The boundaries of promises 1 to 7 and 48: a new object, people, the tape, texts, which one rules, about. */
public final class BoundsTellingTest {
    private static final Check check = new Check();

    public static void main(String[] args) {
        promise1IsNobody();
        promise1HasAnswersOfNobody();
        promise1IsTheImage();
        promise2HandsAndCoins();
        promise2SevenAtMost();
        promise2IsNoStep();
        promise3TwentyBytesInOrder();
        promise3ThreeHundredAtMost();
        promise4FirstBytesAlone();
        promise4NotSoMany();
        promise5NumbersOfTexts();
        promise5FourAtMost();
        promise5Empties();
        promise5FullLength();
        promise6Faults();
        promise7Ruling();
        promise48About();
        check.close("BoundsTellingTest");
    }

    private static void promise1IsNobody() {
        LeftGlove x = new LeftGlove();
        int[] about = {0, 0, -1, 0, 0, 0, 0, 0, 0};
        for (int what = 0; what < about.length; what++) {
            check.due("1: new about(" + what + ")", x.about(what), about[what]);
        }
        int[] is = {0, 0, 139, 0};
        for (int what = 0; what < is.length; what++) {
            check.due("1: new is(" + what + ")", x.is(what), is[what]);
        }
        check.due("1: no fine", x.book(-1, 0), 0);
        check.due("1: not even the first", x.book(0, 0), -2);
        check.due("1: nobody is told", x.of(0, 0), -100000);
        check.due("1: no glove", x.ofGlove(0, 0), -1);
        check.due("1: no text was read", x.fault(0), -1);
        check.due("1: none can be taken back", x.undo(), -1);
        check.due("1: none can be played", x.played(0), -2);
        check.due("1: nobody, no winters", x.winters(0, 1), -1);
        check.due("1: nobody, no bargain", x.bargain(0, 1, 1, 0, 0), -1);
        check.due("1: days pass without anybody", x.day(1), 9);
    }

    private static void promise1HasAnswersOfNobody() {
        LeftGlove x = new LeftGlove();
        check.due("1: FROST foretold", x.foretold(1, 0, 0), 9);
        check.due("1: COLD of nobody", x.foretold(1, 0, 1), -1);
        check.due("1: firstFine", x.firstFine(0), -1);
        check.due("1: free", x.free(), 0);
        check.due("1: order", x.order(0, -1), -2);
        check.due("1: whose", x.whose(5, 8), 0);
        check.due("1: tries", x.tries(1, false), -2);
        check.due("1: weds", x.weds(1, 0), -1);
        check.due("1: unrest", x.unrest(1, -1, -1, -1, -1, -1, -1), -1);
        check.due("1: estate", x.estate(0, 0, false), -1);
        check.due("1: auction", x.auction(0, false), -1);
        check.due("1: an empty chest has one way", x.lives(-1), 1);
        check.due("1: no left in it", x.lives(0), -2);
        check.due("1: ring", x.ring(), 0);
        check.due("1: richest", x.richest(), -1);
        check.due("1: whoseLaw", x.whoseLaw(), 0);
        check.due("1: fined, all", x.fined(-1), 0);
        check.due("1: fined, nobody", x.fined(0), -2);
        check.due("1: pairs", x.pairs(), 0);
        check.due("1: coldest", x.coldest(), -1);
    }

    private static void promise1IsTheImage() {
        check.idle("1: back() to the image of a new object", LeftGlove::new, x -> x.back(), 0);
        LeftGlove x = Scenes.twelveGloves();
        x.price(0, 9);
        x.test(1);
        x.claim(1);
        x.chest(1, 1);
        x.grown(0, 1);
        x.day(60);
        x.winters(7, 40);
        check.due("1: back() from a full one", x.back(), 0);
        check.same("1: all is as new", Shown.of(x), Shown.of(new LeftGlove()));
    }

    private static void promise2HandsAndCoins() {
        LeftGlove x = new LeftGlove();
        check.due("2: HAND 1 and COINS 0 are the least", x.one(1, 0), 0);
        check.due("2: HAND 9 and COINS 9999 are the most", x.one(9, 9999), 1);
        check.due("2: HAND 1", x.of(0, 0), 1);
        check.due("2: COINS 0", x.of(0, 1), 0);
        check.due("2: HAND 9", x.of(1, 0), 9);
        check.due("2: COINS 9999", x.of(1, 1), 9999);
        check.due("2: COLD is 0 at first", x.of(1, 2), 0);
        check.idle("2: HAND 0", Scenes::lively, y -> y.one(0, 5), -1);
        check.idle("2: HAND 10", Scenes::lively, y -> y.one(10, 5), -1);
        check.idle("2: COINS -1", Scenes::lively, y -> y.one(5, -1), -1);
        check.idle("2: COINS 10000", Scenes::lively, y -> y.one(5, 10000), -1);
        for (int far : Scenes.FAR) {
            check.idle("2: HAND " + far, Scenes::three, y -> y.one(far, 5), -1);
            check.idle("2: COINS " + far, Scenes::three, y -> y.one(5, far), -1);
        }
    }

    private static void promise2SevenAtMost() {
        LeftGlove x = new LeftGlove();
        for (int one = 0; one < 7; one++) {
            check.due("2: a refused one takes no number", x.one(0, 0), -1);
            check.due("2: one by one", x.one(one + 1, one), one);
        }
        check.idle("2: if there are 7", Scenes::sevenPeople, y -> y.one(5, 5), -1);
        check.due("2: the seventh is the last", Scenes.sevenPeople().of(6, 0), 7);
        check.due("2: there is no eighth", Scenes.sevenPeople().of(7, 0), -100000);
    }

    private static void promise2IsNoStep() {
        LeftGlove x = Check.people(5, 0);
        x.day(2);
        int steps = x.about(3);
        x.one(6, 1);
        check.due("2: telling is no STEP", x.about(3), steps);
        check.due("2: COLD is at first 0, however cold the others are", x.of(1, 2), 0);
        check.due("2: while another one is cold", x.of(0, 2), 18);
    }

    private static void promise3TwentyBytesInOrder() {
        for (int place = 0; place < 20; place++) {
            StringBuilder signs = new StringBuilder(" ".repeat(20));
            signs.setCharAt(place, '!');
            LeftGlove x = new LeftGlove();
            Check.tape(x, signs.toString());
            check.due("3: twenty bytes", x.about(8), 20);
            check.due("3: a foreign byte", x.text(), -1);
            check.due("3: byte " + place + " is where it was fed", x.fault(1), place);
        }
        LeftGlove x = new LeftGlove();
        int blanks = 0x20202020;
        check.due("3: behind an empty tape", x.feed(blanks, blanks, blanks, blanks, blanks), 20);
        check.due("3: behind it", x.feed(blanks, blanks, blanks, blanks, 0xff202020), 40);
        x.text();
        check.due("3: a byte above 127", x.fault(1), 36);
        x.feed(0x20202080, blanks, blanks, blanks, blanks);
        x.text();
        check.due("3: a byte of 128", x.fault(1), 3);
    }

    private static LeftGlove taped(int bytes) {
        LeftGlove x = Scenes.three();
        x.bargain(0, 1, 9, 0, 0);
        Check.tape(x, "grows 3;".concat(" ".repeat(Math.max(0, bytes - 8))));
        x.end(bytes);
        return x;
    }

    private static void promise3ThreeHundredAtMost() {
        check.due("3: 280 and 20 are 300", taped(280).feed(0, 0, 0, 0, 0), 300);
        check.due("3: 279 and 20 are 299", taped(279).feed(0, 0, 0, 0, 0), 299);
        for (int bytes : new int[] {281, 290, 299, 300}) {
            check.idle("3: 20 more than " + bytes, () -> taped(bytes), x -> x.feed(33 << 24, 0, 0, 0, 0), -1);
        }
        LeftGlove x = taped(300);
        check.due("3: less of the tape makes room", x.end(280) + x.feed(0, 0, 0, 0, 0), 580);
        check.due("3: and it is full again", x.feed(0, 0, 0, 0, 0), -1);
        LeftGlove y = taped(281);
        check.due("3: none come", y.feed(-1, -1, -1, -1, -1), -1);
        check.due("3: what was there can be read", y.text(), 0);
    }

    private static void promise4FirstBytesAlone() {
        LeftGlove x = Scenes.three();
        Check.tape(x, "day 1;day 2;");
        check.due("4: all that it has", x.end(12), 12);
        check.due("4: the first 6", x.end(6), 6);
        check.due("4: bytes that are gone don't come back", x.end(7), -1);
        check.due("4: read", x.text(), 0);
        check.due("4: those alone", x.played(0) + 10 * x.is(0), 9);
        Check.tape(x, "day 1;day 2;");
        x.end(4);
        x.feed('3' << 24 | ';' << 16 | 0x2020, 0x20202020, 0x20202020, 0x20202020, 0x20202020);
        check.due("4: what is fed comes behind the first n", x.about(8), 24);
        check.due("4: read", x.text(), 1);
        check.due("4: day 3", x.played(1) + 10 * x.is(0), 39);
        Check.tape(x, "day 1;");
        check.due("4: n may be 0", x.end(0), 0);
        check.due("4: an empty tape", x.about(8), 0);
        check.due("4: 0 of an empty tape", x.end(0), 0);
        check.due("4: read as nothing", x.text() + x.played(2), 1);
    }

    private static void promise4NotSoMany() {
        check.idle("4: one more than it has", Scenes::lively, x -> x.end(9), -1);
        check.idle("4: below 0", Scenes::lively, x -> x.end(-1), -1);
        check.idle("4: one of an empty tape", Scenes::three, x -> x.end(1), -1);
        check.idle("4: 301 of 300", () -> taped(300), x -> x.end(301), -1);
        check.idle("4: 300 of 300", () -> taped(300), x -> x.end(300), 300);
        for (int far : Scenes.FAR) {
            check.idle("4: end(" + far + ")", Scenes::lively, x -> x.end(far), -1);
        }
    }

    private static void promise5NumbersOfTexts() {
        LeftGlove x = Scenes.three();
        for (int text = 0; text < 4; text++) {
            check.due("5: one with a FAULT", Check.text(x, "chill"), -1);
            check.due("5: counts for none", x.about(1), text);
            check.due("5: the number", Check.text(x, "chill " + (text + 1) + ";"), text);
        }
        for (int text = 0; text < 4; text++) {
            x.by(text);
            check.due("5: each is what was read for it", x.of(0, 5), text + 1);
        }
    }

    private static void promise5FourAtMost() {
        check.idle("5: there are 4", Scenes::fourTexts, x -> x.text(), -1);
        LeftGlove x = Scenes.fourTexts();
        x.text();
        check.due("5: the tape stays", x.about(8), 7);
        check.due("5: it isn't read: the latest text had no FAULT", x.fault(0), 0);
        x.end(0);
        check.due("5: an empty one is one too many, too", x.text(), -1);
        check.due("5: four", x.about(1), 4);
        LeftGlove y = Scenes.fourTexts();
        y.back();
        check.due("5: the tape stayed behind it all", y.text(), -1);
        check.due("5: read, as there is room again", y.fault(1), 6);
    }

    private static void promise5Empties() {
        LeftGlove x = new LeftGlove();
        check.due("5: an empty tape is a TEXT", x.text(), 0);
        Check.tape(x, "chill 1;");
        x.text();
        check.due("5: the tape is empty then", x.about(8), 0);
        Check.tape(x, "chill 1");
        x.text();
        check.due("5: behind a FAULT too", x.about(8), 0);
        check.due("5: blanks alone are a TEXT", Check.text(x, " \n\n "), 2);
    }

    private static void promise5FullLength() {
        String law = "chill " + " ".repeat(291) + "7 ;";
        LeftGlove x = Scenes.three();
        check.due("5: 300 bytes", law.length(), 300);
        check.due("5: are read", Check.text(x, law), 0);
        x.by(0);
        check.due("5: to the last", x.of(0, 5), 7);
        check.due("5: 299 bytes lack the end", Check.text(x, law.substring(0, 299)), -1);
        check.due("5: at the length", x.fault(1), 299);
        check.due("5: 300 bytes that lack it", Check.text(x, law.substring(0, 299) + " "), -1);
        check.due("5: at the length", x.fault(1), 300);
        check.due("5: a foreign byte at the last place", Check.text(x, law.substring(0, 299) + "!"), -1);
        check.due("5: there", x.fault(1), 299);
        String ones = "chill " + "1+".repeat(146) + "1;";
        check.due("5: 147 ones in 300 bytes", ones.length(), 300);
        check.due("5: are read", Check.text(x, ones), 1);
        x.by(1);
        check.due("5: 99 at most", x.of(0, 5), 99);
        check.due("5: less 60", Check.text(x, ones.substring(0, 294) + "-60;"), 2);
        x.by(2);
        check.due("5: 144 ones, less 60", x.of(0, 5), 84);
    }

    private static void promise6Faults() {
        LeftGlove x = Scenes.three();
        Supplier<LeftGlove> read = Scenes::lively;
        for (int what : new int[] {0, 1, 2, -1, -2, Integer.MIN_VALUE, Integer.MAX_VALUE}) {
            check.idle("6: fault(" + what + ") ahead of any", Scenes::three, y -> y.fault(what), -1);
            int due = what == 0 ? 2 : what == 1 ? 4 : -1;
            check.idle("6: fault(" + what + ") of day 0;", read, y -> y.fault(what), due);
        }
        Check.text(x, "!");
        check.due("6: its FAULT", x.fault(0), 1);
        check.due("6: its place may be 0", x.fault(1), 0);
        Check.text(x, "chill 1;");
        check.due("6: 0 without", x.fault(0), 0);
        check.due("6: NONE without", x.fault(1), -1);
        Check.text(x, "chill 1;fine 10000;");
        Check.text(x, "chill 1;chill 10000;");
        check.due("6: of the latest", x.fault(0), 4);
        check.due("6: its place", x.fault(1), 8);
        LeftGlove y = new LeftGlove();
        y.text();
        check.due("6: an empty text is read, too", y.fault(0), 0);
        check.due("6: it has no place", y.fault(1), -1);
    }

    private static void promise7Ruling() {
        check.isRefused("7: no TEXT 0", Scenes::three, x -> x.by(0));
        check.isRefused("7: TEXT 2 of 2", Scenes::lively, x -> x.by(2));
        check.isRefused("7: TEXT 4 of 4", Scenes::fourTexts, x -> x.by(4));
        check.isRefused("7: TEXT -2", Scenes::lively, x -> x.by(-2));
        for (int far : Scenes.FAR) {
            check.isRefused("7: TEXT " + far, Scenes::lively, x -> x.by(far));
        }
        LeftGlove x = Scenes.fourTexts();
        check.due("7: at first none", x.about(2), -1);
        check.due("7: the first", x.by(0), true);
        check.due("7: rules", x.about(2) + 10 * x.of(0, 5), 10);
        check.due("7: the fourth", x.by(3), true);
        check.due("7: rules", x.about(2) + 10 * x.of(0, 5), 43);
        check.due("7: NONE", x.by(-1), true);
        check.due("7: none rules", x.about(2), -1);
        check.due("7: NONE where none rules", x.by(-1), true);
        check.due("7: NONE without texts", new LeftGlove().by(-1), true);
        check.due("7: telling which rules is no STEP", x.about(3), 1);
    }

    private static void promise48About() {
        for (int what : new int[] {-1, 9, -2, 10, Integer.MIN_VALUE, Integer.MAX_VALUE}) {
            check.idle("48: about(" + what + ")", Scenes::lively, x -> x.about(what), -2);
        }
        // five bargains, a work, a loss, a pawn and two days
        int[] lively = {4, 2, 0, 10, 2, 2, 2, 1, 8};
        for (int what = 0; what < lively.length; what++) {
            int asked = what;
            check.idle("48: about(" + what + ")", Scenes::lively, x -> x.about(asked), lively[what]);
        }
        check.due("48: 7 PEOPLE", Scenes.sevenPeople().about(0), 7);
        check.due("48: 4 TEXTS", Scenes.fourTexts().about(1), 4);
        check.due("48: 300 bytes", taped(300).about(8), 300);
        LeftGlove x = Scenes.twelveGloves();
        check.due("48: 12 STEPS", x.about(3), 12);
        x.day(18);
        check.due("48: 30 STEPS", x.about(3), 30);
        x.day(1);
        check.due("48: 30 at most", x.about(3), 30);
        x.undo();
        check.due("48: 29", x.about(3), 29);
    }
}
