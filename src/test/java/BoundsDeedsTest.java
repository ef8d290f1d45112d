import java.util.Arrays;
import java.util.function.Supplier;

/** The boundaries of promises 8 to 18: deeds by hand, days, playing, winters and taking back. */
public final class BoundsDeedsTest {
    private static final Check check = new Check();

    public static void main(String[] args) {
        promise8Bargain();
        promise8TwelveAtMost();
        promise8TwelveUnlike();
        promise9Work();
        promise10Pass();
        promise11Lose();
        promise12Find();
        promise13Pledge();
        promise13CoinsAtMost();
        promise14Redeem();
        promise15Days();
        promise15LastDay();
        promise15ColdAtMost();
        promise15Fines();
        promise15Weeks();
        promise15Draws();
        promise16Played();
        promise16WhatCannotBe();
        promise16Days();
        promise17Winters();
        promise17WhatThereAreNoneOf();
        promise17DrawnDeeds();
        promise17ManyDraws();
        promise17IsOneStep();
        promise18None();
        promise18EachKindOfStep();
        promise18ThirtyAtMost();
        promise18RefusedAtThirty();
        promise18PeopleToldSince();
        promise18Book();
        check.close("BoundsDeedsTest");
    }

    private static void promise8Bargain() {
        int[][] others = {{-1, 1, 5, 0, 0}, {4, 1, 5, 0, 0}, {0, -1, 5, 0, 0}, {0, 4, 5, 0, 0}, {0, 0, 5, 0, 0},
            {3, 3, 5, 0, 0}, {-1, -1, 5, 0, 0}, {0, 1, 0, 0, 0}, {0, 1, 100, 0, 0}, {0, 1, -1, 0, 0}, {0, 1, 5, -1, 0},
            {0, 1, 5, 3, 0}, {0, 1, 5, 0, -1}, {0, 1, 5, 0, 10}};
        for (int[] o : others) {
            check.idle("8: bargain of " + Arrays.toString(o), Scenes::lively,
                x -> x.bargain(o[0], o[1], o[2], o[3], o[4]), -1);
        }
        for (int far : Scenes.FAR) {
            check.idle("8: FROM " + far, Scenes::three, x -> x.bargain(far, 1, 5, 0, 0), -1);
            check.idle("8: by " + far, Scenes::three, x -> x.bargain(0, far, 5, 0, 0), -1);
            check.idle("8: WORK " + far, Scenes::three, x -> x.bargain(0, 1, far, 0, 0), -1);
            check.idle("8: LEATHER " + far, Scenes::three, x -> x.bargain(0, 1, 5, far, 0), -1);
            check.idle("8: MARK " + far, Scenes::three, x -> x.bargain(0, 1, 5, 0, far), -1);
        }
        check.idle("8: nobody is there", LeftGlove::new, x -> x.bargain(0, 1, 5, 0, 0), -1);
        check.idle("8: one alone", () -> Check.people(5, 5), x -> x.bargain(0, 1, 5, 0, 0), -1);
        LeftGlove x = Scenes.sevenPeople();
        check.due("8: the least of all", x.bargain(0, 6, 1, 0, 0), 0);
        check.due("8: the most of all", x.bargain(6, 0, 99, 2, 9), 1);
        int[] least = {0, 6, 1, 0, 0, 1, 0};
        int[] most = {6, 0, 99, 2, 9, 7, 0};
        for (int what = 0; what < least.length; what++) {
            check.due("8: the least, " + what, x.ofGlove(0, what), least[what]);
            check.due("8: the most, " + what, x.ofGlove(1, what), most[what]);
        }
        check.due("8: each is a STEP", x.about(3), 2);
        LeftGlove y = Check.people(1, 0, 9, 0);
        y.bargain(0, 1, 1, 0, 0);
        y.bargain(1, 0, 1, 0, 0);
        check.due("8: SIZE 1, the HAND of the one FROM whom it is", y.ofGlove(0, 5), 1);
        check.due("8: SIZE 9", y.ofGlove(1, 5), 9);
    }

    private static void promise8TwelveAtMost() {
        LeftGlove x = Scenes.three();
        for (int glove = 0; glove < 12; glove++) {
            check.due("8: one by one", x.bargain(0, 1, 9, 0, 0), glove);
            check.due("8: none for others between", x.bargain(0, 0, 9, 0, 0), -1);
        }
        check.idle("8: if there are 12", Scenes::twelveGloves, y -> y.bargain(0, 1, 5, 0, 0), -1);
        x.work(3, 9);
        x.lose(4);
        check.due("8: done and lost ones are there yet", x.bargain(0, 1, 9, 0, 0), -1);
        x.undo();
        x.undo();
        x.undo();
        check.due("8: one that is taken back is not", x.bargain(2, 1, 9, 0, 0), 11);
        check.due("8: it is the new one", x.ofGlove(11, 0), 2);
    }

    /** Twelve gloves with something of their own each, seven people and a full book stay apart. */
    private static void promise8TwelveUnlike() {
        LeftGlove x = Scenes.sevenPeople();
        int[][] due = new int[12][];
        for (int g = 0; g < 12; g++) {
            due[g] = new int[] {g % 7, (g * 3 + 1) % 7 == g % 7 ? (g + 1) % 7 : (g * 3 + 1) % 7, 99 - g, (g + 2) % 3, 9 - g % 10,
                g % 7 + 1, g % 4};
            x.bargain(due[g][0], due[g][1], 99 - g, due[g][3], due[g][4]);
        }
        for (int g = 0; g < 12; g++) {
            if (due[g][6] == 1) {
                for (int i = 0; i < 11; i++) {
                    x.work(g, 9);
                }
                due[g][2] = 0;
            } else if (due[g][6] == 2) {
                x.lose(g);
            } else if (due[g][6] == 3) {
                x.pledge(g);
            }
        }
        Check.text(x, "grows 0;fine 1;");
        x.by(0);
        x.day(12);
        check.due("8: a full book", x.book(-1, 0), 30);
        for (int g = 0; g < 12; g++) {
            for (int what = 0; what < due[g].length; what++) {
                check.due("8: ofGlove(" + g + ", " + what + ")", x.ofGlove(g, what), due[g][what]);
            }
        }
        for (int one = 0; one < 7; one++) {
            check.due("8: HAND of " + one, x.of(one, 0), one + 1);
        }
        check.due("8: the last fine", x.book(29, 0), 11);
    }

    private static void promise9Work() {
        int[][] others = {{0, 0}, {0, 10}, {0, -1}, {-1, 1}, {5, 1}, {12, 1}, {1, 1}, {2, 1}};
        for (int[] o : others) {
            check.idle("9: work(" + o[0] + ", " + o[1] + ")", Scenes::lively, x -> x.work(o[0], o[1]), -1);
        }
        for (int far : Scenes.FAR) {
            check.idle("9: glove " + far, Scenes::lively, x -> x.work(far, 1), -1);
            check.idle("9: hours " + far, Scenes::lively, x -> x.work(0, far), -1);
        }
        check.idle("9: no glove is there", Scenes::three, x -> x.work(0, 1), -1);
        check.due("9: h 1 is the least", Scenes.lively().work(0, 1), 8);
        LeftGlove x = Scenes.three();
        x.bargain(0, 1, 10, 0, 0);
        check.due("9: h 9 is the most", x.work(0, 9), 1);
        check.due("9: 1 is not done", x.ofGlove(0, 6), 0);
        check.due("9: WORK 0 at least", x.work(0, 9), 0);
        check.due("9: at 0 it is done", x.ofGlove(0, 6), 1);
        check.due("9: WORK", x.ofGlove(0, 2), 0);
        check.due("9: a done one can't be", x.work(0, 1), -1);
        x.bargain(0, 1, 9, 0, 0);
        check.due("9: just to 0", x.work(1, 9), 0);
        check.due("9: done", x.ofGlove(1, 6), 1);
        x.bargain(0, 1, 9, 0, 0);
        x.pledge(2);
        check.due("9: a pawned one is OPEN", x.work(2, 8), 1);
        check.due("9: it is pawned yet", x.ofGlove(2, 6), 3);
        check.due("9: to 0", x.work(2, 1), 0);
        check.due("9: it is done", x.ofGlove(2, 6), 1);
        check.due("9: and can't be redeemed", x.redeem(2), -1);
    }

    private static void promise10Pass() {
        int[][] others = {{0, 0}, {0, 1}, {0, -1}, {0, 4}, {1, 3}, {2, 3}, {3, 3}, {-1, 3}, {5, 3}, {12, 3}};
        for (int[] o : others) {
            check.isRefused("10: pass(" + o[0] + ", " + o[1] + ")", Scenes::lively, x -> x.pass(o[0], o[1]));
        }
        for (int far : Scenes.FAR) {
            check.isRefused("10: glove " + far, Scenes::lively, x -> x.pass(far, 3));
            check.isRefused("10: to " + far, Scenes::lively, x -> x.pass(0, far));
        }
        Supplier<LeftGlove> two = () -> {
            LeftGlove x = Check.people(5, 5, 6, 6);
            x.bargain(0, 1, 9, 0, 0);
            return x;
        };
        check.isRefused("10: of two people, to the first", two, x -> x.pass(0, 0));
        check.isRefused("10: of two people, to the second", two, x -> x.pass(0, 1));
        check.isRefused("10: no glove is there", Scenes::three, x -> x.pass(0, 2));
        LeftGlove x = Scenes.lively();
        check.due("10: to the last one told", x.pass(0, 3), true);
        check.due("10: who holds it", x.ofGlove(0, 1), 3);
        check.due("10: back to who held it", x.pass(0, 1), true);
        LeftGlove y = Check.people(5, 5, 6, 6, 7, 7);
        y.bargain(1, 2, 9, 0, 0);
        check.due("10: to 0", y.pass(0, 0), true);
        check.due("10: 0 holds it", y.ofGlove(0, 1), 0);
    }

    private static void promise11Lose() {
        for (int glove : new int[] {1, 2, 3, 5, 12, -1}) {
            check.isRefused("11: lose(" + glove + ")", Scenes::lively, x -> x.lose(glove));
        }
        for (int far : Scenes.FAR) {
            check.isRefused("11: lose(" + far + ")", Scenes::lively, x -> x.lose(far));
        }
        check.isRefused("11: no glove is there", Scenes::three, x -> x.lose(0));
        LeftGlove x = Scenes.twelveGloves();
        check.due("11: the first", x.lose(0), true);
        check.due("11: the twelfth", x.lose(11), true);
        check.due("11: is lost", x.ofGlove(11, 6), 2);
        check.due("11: who held it is known yet", x.ofGlove(11, 1), 0);
    }

    private static void promise12Find() {
        int[][] others = {{2, 2}, {2, 4}, {2, -1}, {0, 3}, {1, 3}, {3, 3}, {5, 3}, {12, 3}, {-1, 3}};
        for (int[] o : others) {
            check.isRefused("12: find(" + o[0] + ", " + o[1] + ")", Scenes::lively, x -> x.find(o[0], o[1]));
        }
        for (int far : Scenes.FAR) {
            check.isRefused("12: glove " + far, Scenes::lively, x -> x.find(far, 3));
            check.isRefused("12: one " + far, Scenes::lively, x -> x.find(2, far));
        }
        int[] finders = {0, 1, 3};
        for (int one : finders) {
            LeftGlove x = Scenes.lively();
            check.due("12: by " + one, x.find(2, one), true);
            check.due("12: HELD by it", x.ofGlove(2, 1), one);
            check.due("12: owed again", x.ofGlove(2, 6), 0);
            check.due("12: WORK as it was", x.ofGlove(2, 2), 8);
            check.due("12: not lost any more", x.find(2, one), false);
        }
    }

    private static LeftGlove pawning(int work, int coins, String law) {
        LeftGlove x = Check.people(5, 0, 6, coins);
        x.bargain(0, 1, work, 0, 0);
        Check.text(x, law);
        x.by(0);
        return x;
    }

    private static void promise13Pledge() {
        for (int glove : new int[] {1, 2, 3, 4, 5, 12, -1}) {
            check.idle("13: pledge(" + glove + ")", Scenes::lively, x -> x.pledge(glove), -1);
        }
        for (int far : Scenes.FAR) {
            check.idle("13: pledge(" + far + ")", Scenes::lively, x -> x.pledge(far), -1);
        }
        check.idle("13: no glove is there", Scenes::three, x -> x.pledge(0), -1);
        check.idle("13: pawn 0 by law", () -> pawning(99, 5, "pawn 0;"), x -> x.pledge(0), -1);
        check.idle("13: pawn below 0 by law", () -> pawning(99, 5, "pawn -5;"), x -> x.pledge(0), -1);
        check.idle("13: WORK 1 by 2 is 0", () -> pawning(1, 5, ""), x -> x.pledge(0), -1);
        check.due("13: WORK 2 by 2 is 1 at least", pawning(2, 5, "").pledge(0), 1);
        check.due("13: WORK 3 by 2, cut", pawning(3, 5, "").pledge(0), 1);
        check.due("13: WORK 99 by 2, cut", pawning(99, 5, "").pledge(0), 49);
        check.due("13: pawn 1 by law", pawning(1, 5, "pawn 1;").pledge(0), 1);
        check.due("13: pawn 99 by law", pawning(1, 5, "pawn 99;").pledge(0), 99);
        check.due("13: pawn 100 by law", pawning(1, 5, "pawn 100;").pledge(0), 99);
        LeftGlove x = pawning(1, 0, "pawn 100;");
        x.pledge(0);
        check.due("13: COINS of who holds it", x.of(1, 1), 99);
        check.due("13: not of whom it is from", x.of(0, 1), 0);
        check.due("13: it is pawned", x.ofGlove(0, 6), 3);
        check.due("13: that can't be twice", x.pledge(0), -1);
        check.due("13: a STEP", x.about(3), 2);
    }

    private static void promise13CoinsAtMost() {
        int[][] coins = {{9900, 99, 9999}, {9901, 99, 9999}, {9998, 1, 9999}, {9998, 2, 9999}, {9999, 1, 9999},
            {9999, 99, 9999}, {9899, 99, 9998}};
        for (int[] c : coins) {
            LeftGlove x = pawning(5, c[0], "pawn " + c[1] + ";");
            check.due("13: for how much, from " + c[0], x.pledge(0), c[1]);
            check.due("13: COINS are 9999 at most, from " + c[0], x.of(1, 1), c[2]);
            check.due("13: pawned all the same", x.ofGlove(0, 6), 3);
            x.undo();
            check.due("13: COINS as ahead of it", x.of(1, 1), c[0]);
        }
    }

    private static LeftGlove pawned(int coins, String lawThen) {
        LeftGlove x = pawning(40, coins, "pawn 10;");
        x.pledge(0);
        Check.text(x, lawThen);
        x.by(1);
        return x;
    }

    private static void promise14Redeem() {
        for (int glove : new int[] {0, 1, 2, 4, 5, 12, -1}) {
            check.idle("14: redeem(" + glove + ")", Scenes::lively, x -> x.redeem(glove), -1);
        }
        for (int far : Scenes.FAR) {
            check.idle("14: redeem(" + far + ")", Scenes::lively, x -> x.redeem(far), -1);
        }
        check.idle("14: no glove is there", Scenes::three, x -> x.redeem(0), -1);
        check.idle("14: one coin too few", () -> pawned(0, "pawn 11;"), x -> x.redeem(0), -1);
        check.idle("14: far too few", () -> pawned(0, "pawn 99;"), x -> x.redeem(0), -1);
        int[][] dues = {{0, 10, 10, 0}, {0, 9, 9, 1}, {0, 0, 0, 10}, {0, -1, 0, 10}, {89, 99, 99, 0}, {89, 100, 99, 0},
            {9989, 99, 99, 9900}};
        for (int[] d : dues) {
            LeftGlove x = pawned(d[0], "pawn " + d[1] + ";");
            check.due("14: for pawn " + d[1] + " now", x.redeem(0), d[2]);
            check.due("14: COINS less by it", x.of(1, 1), d[3]);
            check.due("14: it is owed", x.ofGlove(0, 6), 0);
            check.due("14: a STEP", x.about(3), 3);
        }
        LeftGlove x = pawned(0, "pawn work;");
        check.due("14: pawn now is 40", x.redeem(0), -1);
        x.work(0, 9);
        x.work(0, 9);
        x.work(0, 9);
        x.work(0, 3);
        check.due("14: 10, when it was worked at", x.redeem(0), 10);
        LeftGlove y = pawning(2, 0, "");
        y.pledge(0);
        y.work(0, 1);
        check.due("14: 0 too, as WORK 1 by 2 is 0", y.redeem(0), 0);
        check.due("14: COINS stay", y.of(1, 1), 1);
    }

    private static void promise15Days() {
        for (int n : new int[] {0, 61, -1, 62}) {
            check.idle("15: day(" + n + ")", Scenes::lively, x -> x.day(n), -1);
        }
        for (int far : Scenes.FAR) {
            check.idle("15: day(" + far + ")", Scenes::lively, x -> x.day(far), -1);
        }
        LeftGlove x = Scenes.three();
        check.due("15: 1 is the least", x.day(1), 9);
        check.due("15: DAY 1", x.is(0), 1);
        x.day(60);
        check.due("15: 60 are the most", x.is(0), 61);
    }

    private static void promise15LastDay() {
        check.due("15: DAY 9939", Scenes.onDay(9939).is(0), 9939);
        int[][] beyond = {{9999, 1}, {9999, 60}, {9998, 2}, {9998, 60}, {9940, 60}, {9990, 10}};
        for (int[] b : beyond) {
            check.idle("15: " + b[1] + " days beyond " + b[0], () -> Scenes.onDay(b[0]), x -> x.day(b[1]), -1);
        }
        int[][] within = {{9939, 60}, {9998, 1}, {9990, 9}, {9997, 2}};
        for (int[] w : within) {
            LeftGlove x = Scenes.onDay(w[0]);
            check.due("15: " + w[1] + " days from " + w[0] + " on", x.day(w[1]) >= 0, true);
            check.due("15: DAY 9999", x.is(0), 9999);
            check.due("15: none can pass", x.day(1), -1);
            check.due("15: one taken back", x.undo() >= 0, true);
            check.due("15: DAY 9998", x.is(0), 9998);
            check.due("15: and on again", x.day(1) >= 0, true);
        }
    }

    private static void promise15ColdAtMost() {
        LeftGlove x = Check.people(5, 0);
        Check.text(x, "chill 99;");
        Check.text(x, "chill 98;");
        x.by(0);
        x.day(60);
        x.day(40);
        check.due("15: COLD of 100 days by 99", x.of(0, 2), 9900);
        x.day(1);
        check.due("15: COLD 9999", x.of(0, 2), 9999);
        x.day(1);
        check.due("15: COLD is 9999 at most", x.of(0, 2), 9999);
        x.undo();
        x.undo();
        check.due("15: COLD as ahead of it", x.of(0, 2), 9900);
        x.by(1);
        x.day(1);
        check.due("15: COLD 9998", x.of(0, 2), 9998);
        x.day(1);
        check.due("15: no more than 9999", x.of(0, 2), 9999);
    }

    /** COINS behind a day and what was written (0: nothing), of COINS and a law, with rights. */
    private static void fine(int coins, String law, int left, int written) {
        LeftGlove x = Check.people(5, coins, 6, coins);
        x.bargain(0, 1, 9, 0, 0);
        Check.text(x, law);
        x.by(0);
        x.day(1);
        check.due("15: COINS of " + coins + " behind " + law, x.of(0, 1), left);
        check.due("15: written", x.book(-1, 0), written > 0 ? 1 : 0);
        check.due("15: how much", x.book(0, 2), written > 0 ? written : -2);
        check.due("15: without rights no fine", x.of(1, 1), coins);
    }

    private static void promise15Fines() {
        fine(0, "fine 5;", 0, 0);
        fine(5, "fine 0;", 5, 0);
        fine(5, "fine -1;", 5, 0);
        fine(5, "fine 1;", 4, 1);
        fine(5, "fine 4;", 1, 4);
        fine(5, "fine 5;", 0, 5);
        fine(5, "fine 6;", 0, 5);
        fine(1, "fine 99;", 0, 1);
        fine(98, "fine 99;", 0, 98);
        fine(99, "fine 99;", 0, 99);
        fine(100, "fine 99;", 1, 99);
        fine(9999, "fine 100;", 9900, 99);
        fine(1, "", 0, 1);
        LeftGlove x = Check.people(5, 10, 6, 0);
        x.bargain(0, 1, 9, 0, 0);
        x.pledge(0);
        x.day(1);
        check.due("15: a pawned one is OPEN", x.of(0, 1), 9);
        x.work(0, 9);
        x.day(1);
        check.due("15: a done one isn't", x.of(0, 1), 9);
        x.bargain(0, 1, 9, 0, 0);
        x.lose(1);
        x.day(1);
        check.due("15: nor a lost one", x.of(0, 1), 9);
        x.find(1, 1);
        x.day(1);
        check.due("15: a found one is", x.of(0, 1), 8);
    }

    private static void promise15Weeks() {
        int[] works = {1, 89, 90, 91, 98, 99};
        LeftGlove x = Check.people(5, 0, 6, 0);
        for (int work : works) {
            x.bargain(0, 1, work, 0, 0);
        }
        Check.text(x, "grows 9;");
        Check.text(x, "grows 10;");
        Check.text(x, "grows -1;");
        x.by(0);
        x.day(6);
        for (int glove = 0; glove < works.length; glove++) {
            check.due("15: WORK on DAY 6", x.ofGlove(glove, 2), works[glove]);
        }
        x.day(1);
        for (int glove = 0; glove < works.length; glove++) {
            check.due("15: WORK is 99 at most", x.ofGlove(glove, 2), Math.min(99, works[glove] + 9));
        }
        x.by(1);
        x.day(6);
        check.due("15: not till DAY 13", x.ofGlove(0, 2), 10);
        x.day(1);
        check.due("15: grows 9 at most", x.ofGlove(0, 2), 19);
        x.by(2);
        x.day(7);
        check.due("15: grows 0 at least", x.ofGlove(0, 2), 19);
        LeftGlove y = Check.people(5, 0, 6, 0);
        for (int i = 0; i < 4; i++) {
            y.bargain(0, 1, 9, 0, 0);
        }
        y.work(1, 9);
        y.lose(2);
        y.pledge(3);
        y.day(7);
        int[] due = {10, 0, 9, 10};
        for (int glove = 0; glove < due.length; glove++) {
            check.due("15: just OPEN ones grow: " + glove, y.ofGlove(glove, 2), due[glove]);
        }
    }

    private static void promise15Draws() {
        LeftGlove x = new LeftGlove();
        int draw = 139;
        for (int day = 1; day <= 200; day++) {
            int frost = draw % 10;
            draw = (draw * 373 + 251) % 30467;
            check.due("15: FROST of DAY " + day, x.day(1), frost);
            check.due("15: X of DAY " + day, x.is(2), draw);
        }
        check.due("15: DAY", x.is(0), 200);
    }

    private static void promise16Played() {
        for (int text : new int[] {-1, 2, -2, 4}) {
            check.idle("16: played(" + text + ")", Scenes::lively, x -> x.played(text), -2);
        }
        for (int far : Scenes.FAR) {
            check.idle("16: played(" + far + ")", Scenes::lively, x -> x.played(far), -2);
        }
        check.idle("16: no TEXT is there", Scenes::three, x -> x.played(0), -2);
        check.idle("16: the fifth of four", Scenes::fourTexts, x -> x.played(4), -2);
        check.idle("16: laws alone", Scenes::fourTexts, x -> x.played(3), -1);
        LeftGlove x = Scenes.three();
        x.text();
        check.due("16: an empty one: all is done", x.played(0), -1);
        check.due("16: nothing was", x.about(3), 0);
        Check.text(x, "lose 0;day 1;");
        check.due("16: the first can't be", x.played(1), 0);
        check.due("16: it ends there", x.is(0), 0);
        Check.text(x, "day 1;".repeat(23) + "lose 0;");
        check.due("16: the last of 24 can't be", x.played(2), 23);
        check.due("16: what was done stays", x.is(0), 23);
        Check.text(x, "chill 1;fine 1;grows 1;pawn 1;day 1;lose 0;day 1;");
        check.due("16: laws count, too", x.played(3), 5);
        check.due("16: DAY", x.is(0), 24);
        LeftGlove y = Scenes.three();
        Check.text(y, "day 1;".repeat(23) + "one 7 coins 88;");
        check.due("16: all 24 are done", y.played(0), -1);
        check.due("16: the last with its own numbers", y.of(3, 0) + 10 * y.of(3, 1), 887);
        Check.text(y, "owe 3 to 1 work 98 leather 1 mark 9;");
        check.due("16: the first", y.played(1), -1);
        int[] owe = {3, 1, 98, 1, 9, 7, 0};
        for (int what = 0; what < owe.length; what++) {
            check.due("16: with its own numbers", y.ofGlove(0, what), owe[what]);
        }
    }

    private static void cannotBe(String clause) {
        LeftGlove x = Scenes.lively();
        Check.text(x, "chill 1;" + clause + ";day 1;");
        int steps = x.about(3);
        check.due("16: " + clause + " can't be", x.played(2), 1);
        check.due("16: nothing behind " + clause, x.is(0), 2);
        check.due("16: no STEP by " + clause, x.about(3), steps);
    }

    private static void canBe(String clause) {
        LeftGlove x = Scenes.lively();
        Check.text(x, "chill 1;" + clause + ";day 1;");
        check.due("16: " + clause + " can be", x.played(2), -1);
        check.due("16: what is behind " + clause, x.is(0), 3);
    }

    private static void promise16WhatCannotBe() {
        String kind = " work 1 leather 0 mark 0";
        for (String clause : new String[] {"do 1 hours 1", "do 2 hours 1", "do 5 hours 1", "pass 0 to 0", "pass 0 to 1",
            "pass 0 to 4", "pass 1 to 3", "pass 2 to 3", "pass 3 to 3", "pass 5 to 3", "lose 1", "lose 2", "lose 3", "lose 5",
            "lose 11", "pledge 1", "pledge 2", "pledge 3", "pledge 4", "pledge 5", "redeem 0", "redeem 1", "redeem 2",
            "redeem 5", "owe 0 to 0" + kind, "owe 0 to 4" + kind, "owe 4 to 0" + kind, "owe 6 to 6" + kind}) {
            cannotBe(clause);
        }
        for (String clause : new String[] {"do 0 hours 1", "do 3 hours 9", "pass 0 to 3", "lose 0", "pledge 0", "redeem 3",
            "owe 0 to 3" + kind, "one 1 coins 0", "one 9 coins 9999"}) {
            canBe(clause);
        }
        LeftGlove x = Scenes.sevenPeople();
        Check.text(x, "one 5 coins 5;");
        check.due("16: an eighth one can't be", x.played(0), 0);
        LeftGlove y = Scenes.twelveGloves();
        Check.text(y, "owe 0 to 1" + kind + ";");
        check.due("16: a thirteenth GLOVE can't be", y.played(0), 0);
        LeftGlove z = new LeftGlove();
        Check.text(z, "one 1 coins 1;".repeat(8));
        check.due("16: the eighth CLAUSE can't be", z.played(0), 7);
        check.due("16: seven are told", z.about(0), 7);
    }

    private static LeftGlove onDayWith(int day, String text) {
        LeftGlove x = Scenes.onDay(day);
        Check.text(x, text);
        return x;
    }

    private static void promise16Days() {
        LeftGlove x = onDayWith(9990, "lose 0;day 9;");
        check.due("16: DAYS to the last", x.played(2), -1);
        check.due("16: DAY 9999", x.is(0), 9999);
        LeftGlove y = onDayWith(9990, "lose 0;day 10;one 1 coins 1;");
        check.due("16: one too many can't be", y.played(2), 1);
        check.due("16: those that can pass do", y.is(0), 9999);
        check.due("16: it ended there", y.about(0), 2);
        y.undo();
        check.due("16: each is a STEP", y.is(0), 9998);
        LeftGlove z = onDayWith(9999, "day 1;");
        int steps = z.about(3);
        check.due("16: none can pass", z.played(2), 0);
        check.due("16: none did", z.is(0), 9999);
        check.due("16: no STEP", z.about(3), steps);
        LeftGlove w = onDayWith(0, "day 60;");
        check.due("16: sixty", w.played(2), -1);
        check.due("16: passed", w.is(0), 60);
        check.due("16: the latest 30 can be taken back", w.about(3), 30);
    }

    private static void promise17Winters() {
        int[][] others = {{-1, 1}, {10000, 1}, {0, 0}, {0, 41}, {0, -1}, {-1, 0}, {10000, 41}};
        for (int[] o : others) {
            check.idle("17: winters(" + o[0] + ", " + o[1] + ")", Scenes::lively, x -> x.winters(o[0], o[1]), -1);
        }
        for (int far : Scenes.FAR) {
            check.idle("17: SEED " + far, Scenes::lively, x -> x.winters(far, 1), -1);
            check.idle("17: n " + far, Scenes::lively, x -> x.winters(1, far), -1);
        }
        check.idle("17: without PEOPLE", LeftGlove::new, x -> x.winters(0, 1), -1);
        LeftGlove x = Check.people(5, 5);
        // x 139 is 6 mod 7: a DAY, which draws FROST from 21631
        check.due("17: SEED 0 is the least, n 1 too", x.winters(0, 1), 1);
        check.due("17: FROST", x.is(1), 1);
        check.due("17: X", x.is(2), 25326);
        // x 20137 is 5 mod 7: a DAY, which draws FROST from 16470
        check.due("17: SEED 9999 is the most", x.winters(9999, 1), 2);
        check.due("17: FROST", x.is(1), 0);
        check.due("17: X", x.is(2), 19694);
    }

    /** Draws of 0 .. 4 (mod 7) that nothing comes of but X anew. */
    private static void nothingBut(String name, Supplier<LeftGlove> made, int seed) {
        LeftGlove x = made.get();
        LeftGlove y = made.get();
        int first = seed * 2 + 139;
        check.due("17: " + name, x.winters(seed, 1), y.is(0));
        check.due("17: X anew, " + name, x.is(2), (first * 373 + 251) % 30467);
        check.due("17: FROST as ahead, " + name, x.is(1), y.is(1));
        check.due("17: GLOVES as ahead, " + name, x.is(3), y.is(3));
        for (int glove = 0; glove < y.is(3); glove++) {
            for (int what = 0; what <= 6; what++) {
                check.due("17: glove " + glove + ", " + name, x.ofGlove(glove, what), y.ofGlove(glove, what));
            }
        }
        for (int one = 0; one < y.about(0); one++) {
            check.due("17: COINS of " + one + ", " + name, x.of(one, 1), y.of(one, 1));
        }
        int steps = Math.min(30, y.about(3) + 1);
        check.due("17: a STEP all the same, " + name, x.about(3), steps);
        check.due("17: taken back, " + name, x.undo(), steps - 1);
        check.due("17: X as ahead, " + name, x.is(2), y.is(2));
    }

    private static LeftGlove withOneGlove(int deed) {
        LeftGlove x = Check.people(5, 5, 6, 6);
        x.bargain(0, 1, deed == 4 ? 1 : 9, 0, 0);
        if (deed == 1) {
            x.work(0, 9);
        } else if (deed == 2) {
            x.pledge(0);
        } else if (deed == 3) {
            x.lose(0);
        }
        return x;
    }

    private static void promise17WhatThereAreNoneOf() {
        // seeds 1, 5, 16, 6: x 141, 149, 171, 151 are 1, 2, 3, 4 mod 7, and 171 is 0 mod 3; seed 2: 143 is 3, and 2 mod 3
        for (int seed : new int[] {1, 5, 16, 6}) {
            nothingBut("no GLOVE for seed " + seed, Scenes::three, seed);
        }
        nothingBut("a done one can't be worked at", () -> withOneGlove(1), 1);
        nothingBut("a pawned one can't be passed", () -> withOneGlove(2), 5);
        nothingBut("a done one can't be passed", () -> withOneGlove(1), 5);
        nothingBut("a lost one can't be lost", () -> withOneGlove(3), 16);
        nothingBut("not lost, if x mod 3 isn't 0", () -> withOneGlove(0), 2);
        nothingBut("a pawned one can't be pawned", () -> withOneGlove(2), 6);
        nothingBut("pawn 0 can't be pawned", () -> withOneGlove(4), 6);
        // seed 4: x 147 is 0 mod 7; of one alone FROM and HELD by are alike; 12 are there; seed 25: x 189 is 0 mod 7
        nothingBut("one alone can't bargain", () -> Check.people(5, 5), 4);
        nothingBut("FROM and HELD by alike", Scenes::three, 4);
        nothingBut("a thirteenth can't be", () -> {
            LeftGlove x = Scenes.twelveGloves();
            x.one(5, 5);
            return x;
        }, 25);
        // seed 0: x 139 is 6 mod 7; seed 3: x 145 is 5 mod 7
        nothingBut("no DAY beyond 9999", () -> Scenes.onDay(9999), 0);
        nothingBut("no DAY beyond 9999", () -> Scenes.onDay(9999), 3);
        check.due("17: a last DAY can pass", Scenes.onDay(9998).winters(0, 1), 9999);
    }

    /** Each SEED's first draw: 0 to 4 (mod 7) in turn, whom or which it takes, by how many there are. */
    private static void promise17DrawnDeeds() {
        drawnBargains();
        for (int seed = 0; seed <= 9999; seed++) {
            int draw = seed * 2 + 139;
            if (draw % 7 > 0 && draw % 7 < 5) {
                drawnOnGloves(seed, draw, 1 + seed % 5);
            }
        }
    }

    private static void drawnBargains() {
        for (int seed = 4; seed <= 9999; seed += 7) {
            int draw = seed * 2 + 139;
            int people = 2 + seed % 6;
            int from = draw % people;
            int by = draw / 7 % people;
            LeftGlove x = new LeftGlove();
            for (int one = 0; one < people; one++) {
                x.one(one + 1, 0);
            }
            x.winters(seed, 1);
            int[] due = from == by ? new int[] {-1, -1, -1, -1, -1, -1, -1}
                : new int[] {from, by, 1 + draw % 20, draw % 3, draw % 10, from + 1, 0};
            for (int what = 0; what < due.length; what++) {
                check.due("17: BARGAINED by seed " + seed + ", " + what, x.ofGlove(0, what), due[what]);
            }
        }
    }

    private static void drawnOnGloves(int seed, int draw, int gloves) {
        LeftGlove x = Scenes.sevenPeople();
        for (int glove = 0; glove < gloves; glove++) {
            x.bargain(0, 1, 9, 0, 0);
        }
        x.winters(seed, 1);
        int to = draw / 5 % 7;
        for (int glove = 0; glove < gloves; glove++) {
            int deed = glove == draw % gloves ? draw % 7 : 0;
            int work = deed == 1 ? 8 - draw % 9 : 9;
            int how = work == 0 ? 1 : deed == 3 && draw % 3 == 0 ? 2 : deed == 4 ? 3 : 0;
            check.due("17: WORK by seed " + seed + ", " + glove, x.ofGlove(glove, 2), work);
            check.due("17: how it is by seed " + seed + ", " + glove, x.ofGlove(glove, 6), how);
            check.due("17: HELD by seed " + seed + ", " + glove, x.ofGlove(glove, 1), deed == 2 && to > 0 ? to : 1);
        }
        check.due("17: COINS by seed " + seed, x.of(1, 1), draw % 7 == 4 ? 14 : 10);
    }

    private static void promise17ManyDraws() {
        // One alone has no gloves: what is drawn is days or nothing.
        for (int n = 1; n <= 40; n++) {
            int draw = 77 * 2 + 139;
            int days = 0;
            int frost = 0;
            for (int i = 0; i < n; i++) {
                int x = draw;
                draw = (draw * 373 + 251) % 30467;
                if (x % 7 >= 5) {
                    days++;
                    frost = draw % 10;
                    draw = (draw * 373 + 251) % 30467;
                }
            }
            LeftGlove x = Check.people(5, 5);
            check.due("17: DAY of " + n + " draws", x.winters(77, n), days);
            check.due("17: FROST of " + n + " draws", x.is(1), frost);
            check.due("17: X of " + n + " draws", x.is(2), draw);
            check.due("17: one STEP", x.about(3), 1);
        }
    }

    private static void promise17IsOneStep() {
        LeftGlove x = Scenes.lively();
        int steps = x.about(3);
        x.winters(1234, 40);
        check.due("17: one STEP", x.about(3), steps + 1);
        x.undo();
        check.same("17: taken back whole", Shown.of(x), Shown.of(Scenes.lively()));
    }

    private static void promise18None() {
        check.idle("18: of a new object", LeftGlove::new, x -> x.undo(), -1);
        check.idle("18: telling is none", Scenes::sevenPeople, x -> x.undo(), -1);
        LeftGlove x = Scenes.three();
        x.day(1);
        check.due("18: the only one", x.undo(), 0);
        check.due("18: there is none", x.undo(), -1);
        check.due("18: still", x.undo(), -1);
        check.same("18: as told", Shown.of(x), Shown.of(Scenes.three()));
    }

    private static void takenBack(String name, Check.Call deed) {
        LeftGlove x = Scenes.lively();
        int steps = x.about(3);
        check.due("18: " + name + " can be", deed.on(x) >= 0, true);
        check.due("18: " + name + " is a STEP", x.about(3), steps + 1);
        check.due("18: " + name + " is taken back", x.undo(), steps);
        check.same("18: as ahead of " + name, Shown.of(x), Shown.of(Scenes.lively()));
    }

    private static void promise18EachKindOfStep() {
        takenBack("BARGAINED", x -> x.bargain(3, 2, 99, 2, 9));
        takenBack("WORKED", x -> x.work(0, 9));
        takenBack("PASSED", x -> x.pass(0, 3) ? 1 : -1);
        takenBack("LOST", x -> x.lose(0) ? 1 : -1);
        takenBack("FOUND", x -> x.find(2, 3) ? 1 : -1);
        takenBack("PAWNED", x -> x.pledge(0));
        takenBack("REDEEMED", x -> x.redeem(3));
        takenBack("a DAY", x -> x.day(1));
        takenBack("WINTERS", x -> x.winters(9999, 40));
        LeftGlove x = Scenes.lively();
        x.lose(0);
        x.find(0, 3);
        x.work(0, 1);
        check.due("18: the latest first", x.undo(), 12);
        check.due("18: WORK", x.ofGlove(0, 2), 9);
        check.due("18: yet HELD by 3", x.ofGlove(0, 1), 3);
        check.due("18: then the next", x.undo(), 11);
        check.due("18: lost", x.ofGlove(0, 6), 2);
        check.due("18: HELD by 1", x.ofGlove(0, 1), 1);
    }

    private static void promise18ThirtyAtMost() {
        for (int days : new int[] {1, 29, 30, 31, 32, 60, 61, 62, 93, 120}) {
            LeftGlove x = Scenes.three();
            for (int rest = days; rest > 0; rest -= 60) {
                x.day(Math.min(rest, 60));
            }
            int many = Math.min(30, days);
            check.due("18: STEPS of " + days + " DAYS", x.about(3), many);
            for (int i = many - 1; i >= 0; i--) {
                check.due("18: how many can be yet", x.undo(), i);
                check.due("18: DAY", x.is(0), days - many + i);
            }
            check.due("18: no more", x.undo(), -1);
            check.due("18: DAY stays", x.is(0), days - many);
        }
        LeftGlove x = Scenes.three();
        x.day(40);
        for (int i = 0; i < 12; i++) {
            x.undo();
        }
        check.due("18: 18 are left", x.about(3), 18);
        x.day(11);
        check.due("18: 29", x.about(3), 29);
        x.day(5);
        check.due("18: 30 again, of 34", x.about(3), 30);
        x.image();
        x.day(7);
        x.back();
        for (int i = 29; i >= 0; i--) {
            check.due("18: how many can be yet", x.undo(), i);
            check.due("18: DAY", x.is(0), 14 + i);
        }
        check.due("18: no more", x.undo(), -1);
    }

    /** What is refused where 30 can be taken back leaves all thirty as they are, the eldest too. */
    private static void promise18RefusedAtThirty() {
        LeftGlove x = Scenes.three();
        x.bargain(0, 1, 99, 0, 0);
        x.day(40);
        check.due("18: 30", x.about(3), 30);
        check.due("18: refused", x.bargain(0, 0, 1, 0, 0), -1);
        check.due("18: refused", x.work(0, 10), -1);
        check.due("18: refused", x.pass(0, 0), false);
        check.due("18: refused", x.lose(1), false);
        check.due("18: refused", x.find(0, 1), false);
        check.due("18: refused", x.pledge(1), -1);
        check.due("18: refused", x.redeem(0), -1);
        check.due("18: refused", x.day(61), -1);
        check.due("18: refused", x.winters(0, 41), -1);
        for (int i = 29; i >= 0; i--) {
            check.due("18: how many can be yet", x.undo(), i);
            check.due("18: DAY", x.is(0), 10 + i);
        }
        check.due("18: COINS as ahead of the eldest", x.of(0, 1), 10);
        check.due("18: BOOK as ahead of the eldest", x.book(-1, 0), 10);
    }

    private static void promise18PeopleToldSince() {
        LeftGlove x = new LeftGlove();
        x.day(1);
        for (int one = 0; one < 7; one++) {
            x.one(one + 1, 10 * one);
            x.day(1);
        }
        x.bargain(6, 0, 99, 0, 0);
        x.pledge(0);
        x.day(3);
        for (int i = 12; i >= 0; i--) {
            check.due("18: how many can be yet", x.undo(), i);
        }
        check.due("18: DAY", x.is(0), 0);
        check.due("18: all are told yet", x.about(0), 7);
        for (int one = 0; one < 7; one++) {
            check.due("18: HAND as told", x.of(one, 0), one + 1);
            check.due("18: COINS as told", x.of(one, 1), 10 * one);
            check.due("18: COLD as told", x.of(one, 2), 0);
        }
        check.due("18: an eighth can't be", x.one(5, 5), -1);
        LeftGlove y = Check.people(5, 5);
        y.day(2);
        y.one(6, 6);
        y.undo();
        check.due("18: who was told ahead is as ahead", y.of(0, 2), 0);
        check.due("18: who was told since is there", y.of(1, 1), 6);
        y.day(2);
        y.undo();
        check.due("18: and as ahead of a later STEP", y.of(1, 2), 18);
    }

    private static void promise18Book() {
        LeftGlove x = Check.people(5, 9999, 6, 0);
        x.bargain(0, 1, 99, 0, 0);
        x.day(29);
        check.due("18: 29 fines", x.book(-1, 0), 29);
        x.day(2);
        check.due("18: the latest 30", x.book(-1, 0), 30);
        check.due("18: from DAY 1 on", x.book(0, 0), 1);
        x.undo();
        check.due("18: 30 as ahead", x.book(-1, 0), 30);
        check.due("18: from DAY 0 on", x.book(0, 0), 0);
        x.undo();
        check.due("18: 29 as ahead", x.book(-1, 0), 29);
        check.due("18: from DAY 0 on", x.book(0, 0), 0);
        check.due("18: to DAY 28", x.book(28, 0), 28);
    }
}
