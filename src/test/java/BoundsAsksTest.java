/** The boundaries of promises 19 to 25 and 39 to 47: people, gloves, the book, what comes, rounds, laws, the image. */
public final class BoundsAsksTest {
    private static final Check check = new Check();

    public static void main(String[] args) {
        promise19Of();
        promise19Farthest();
        promise20OfGlove();
        promise21Is();
        promise22Book();
        promise22Latest();
        promise23Foretold();
        promise23LastDay();
        promise24FirstFine();
        promise25Free();
        promise39Ring();
        promise39LowestSet();
        promise40Richest();
        promise41Grown();
        promise42WhoseLaw();
        promise42Aside();
        promise43Fined();
        promise44Pairs();
        promise45Coldest();
        promise46And47Image();
        promise47Full();
        promise47TapeAndFault();
        promise47WhatIsTold();
        check.close("BoundsAsksTest");
    }

    private static void promise19Of() {
        for (int one : new int[] {-1, 4, 7, -2}) {
            check.idle("19: of(" + one + ", 0)", Scenes::lively, x -> x.of(one, 0), -100000);
        }
        for (int what : new int[] {-1, 8, 9, -2}) {
            check.idle("19: of(0, " + what + ")", Scenes::lively, x -> x.of(0, what), -100000);
        }
        for (int far : Scenes.FAR) {
            check.idle("19: of(" + far + ", 0)", Scenes::lively, x -> x.of(far, 0), -100000);
            check.idle("19: of(0, " + far + ")", Scenes::lively, x -> x.of(0, far), -100000);
        }
        check.idle("19: nobody is told", LeftGlove::new, x -> x.of(0, 0), -100000);
        // behind two days by chill frost+1 and fine rights*2; frost was 0 and 9, and is 1
        int[][] due = {{5, 12, 11, 2, 1, 2, 4, 1 - 9 - 6}, {7, 0, 11, 1, 1, 2, 2, 9 - 1}, {6, 3, 11, 0, 0, 2, 0, 6},
            {5, 50, 11, 0, 0, 2, 0, 0}};
        for (int one = 0; one < due.length; one++) {
            for (int what = 0; what < due[one].length; what++) {
                int asked = one;
                int of = what;
                check.idle("19: of(" + one + ", " + what + ")", Scenes::lively, x -> x.of(asked, of), due[one][what]);
            }
        }
        check.due("19: the seventh", Scenes.sevenPeople().of(6, 0), 7);
    }

    private static void promise19Farthest() {
        LeftGlove x = Check.people(5, 1, 6, 1, 7, 1);
        for (int i = 0; i < 12; i++) {
            x.bargain(0, 1, 99, 0, 0);
        }
        check.due("19: RIGHTS", x.of(0, 3), 12);
        check.due("19: LEFTS", x.of(1, 4), 12);
        check.due("19: SUM that it owes", x.of(0, 7), -1188);
        check.due("19: SUM owed to it", x.of(1, 7), 1188);
        check.due("19: SUM of who has none", x.of(2, 7), 0);
        check.due("19: fine as law says, beyond its COINS", x.of(0, 6), 12);
        check.due("19: fine of who has no RIGHTS", x.of(1, 6), 0);
        x.pledge(0);
        check.due("19: a pawned one is no LEFT", x.of(1, 4), 11);
        check.due("19: it is a RIGHT", x.of(0, 3), 12);
        check.due("19: and in SUM", x.of(1, 7), 1188);
        x.lose(1);
        check.due("19: a lost one is no LEFT", x.of(1, 4), 10);
        check.due("19: no RIGHT", x.of(0, 3), 11);
        check.due("19: not in SUM", x.of(1, 7), 1089);
        check.due("19: nor what it owes", x.of(0, 7), -1089);
        for (int i = 0; i < 11; i++) {
            x.work(2, 9);
        }
        check.due("19: nor a done one", x.of(1, 7), 990);
        x.day(1);
        check.due("19: chill of two bare hands at FROST 9", x.of(2, 5), 18);
        check.due("19: chill of none", x.of(0, 5), 0);
    }

    private static void promise20OfGlove() {
        for (int glove : new int[] {-1, 5, 11, 12, -2}) {
            check.idle("20: ofGlove(" + glove + ", 0)", Scenes::lively, x -> x.ofGlove(glove, 0), -1);
            check.idle("20: ofGlove(" + glove + ", 8)", Scenes::lively, x -> x.ofGlove(glove, 8), -1);
        }
        for (int what : new int[] {-1, 9, 10, -2}) {
            check.idle("20: ofGlove(0, " + what + ")", Scenes::lively, x -> x.ofGlove(0, what), -1);
        }
        for (int far : Scenes.FAR) {
            check.idle("20: ofGlove(" + far + ", 0)", Scenes::lively, x -> x.ofGlove(far, 0), -1);
            check.idle("20: ofGlove(0, " + far + ")", Scenes::lively, x -> x.ofGlove(0, far), -1);
        }
        int[][] due = {{0, 1, 9, 2, 3, 5, 0, 2, 4}, {1, 2, 0, 2, 1, 7, 1, 2, 0}, {2, 0, 8, 0, 0, 6, 2, 0, 4},
            {0, 2, 6, 2, 4, 5, 3, 2, 3}, {1, 0, 1, 1, 9, 7, 0, 1, 0}};
        for (int glove = 0; glove < due.length; glove++) {
            for (int what = 0; what < due[glove].length; what++) {
                int asked = glove;
                int of = what;
                check.idle("20: ofGlove(" + glove + ", " + what + ")", Scenes::lively, x -> x.ofGlove(asked, of),
                    due[glove][what]);
            }
        }
        check.due("20: the twelfth", Scenes.twelveGloves().ofGlove(11, 2), 21);
        check.due("20: no thirteenth", Scenes.twelveGloves().ofGlove(12, 2), -1);
        LeftGlove x = Scenes.twelveGloves();
        x.undo();
        check.due("20: taken back", x.ofGlove(11, 2), -1);
    }

    private static void promise21Is() {
        for (int what : new int[] {-1, 4, 5, -2, Integer.MIN_VALUE, Integer.MAX_VALUE}) {
            check.idle("21: is(" + what + ")", Scenes::lively, x -> x.is(what), -2);
        }
        int[] due = {2, 1, 25326, 5};
        for (int what = 0; what < due.length; what++) {
            int asked = what;
            check.idle("21: is(" + what + ")", Scenes::lively, x -> x.is(asked), due[what]);
        }
        check.due("21: DAY 9999", Scenes.onDay(9999).is(0), 9999);
        check.due("21: 12 GLOVES", Scenes.twelveGloves().is(3), 12);
    }

    private static void promise22Book() {
        check.idle("22: none in a new book", LeftGlove::new, x -> x.book(-1, 0), 0);
        check.idle("22: not even the first", LeftGlove::new, x -> x.book(0, 0), -2);
        // two days: 4 and 2, then 4 and the last 1
        int[][] due = {{0, 0, 4}, {0, 1, 2}, {1, 0, 4}, {1, 1, 1}};
        check.idle("22: how many", Scenes::lively, x -> x.book(-1, 0), 4);
        for (int i = 0; i < due.length; i++) {
            for (int what = 0; what < 3; what++) {
                int asked = i;
                int of = what;
                check.idle("22: book(" + i + ", " + what + ")", Scenes::lively, x -> x.book(asked, of), due[i][what]);
            }
        }
        for (int i : new int[] {4, 5, 29, 30, -2}) {
            check.idle("22: book(" + i + ", 0)", Scenes::lively, x -> x.book(i, 0), -2);
        }
        for (int what : new int[] {-1, 3, 4, -2}) {
            check.idle("22: book(0, " + what + ")", Scenes::lively, x -> x.book(0, what), -2);
        }
        for (int far : Scenes.FAR) {
            check.idle("22: book(" + far + ", 0)", Scenes::lively, x -> x.book(far, 0), -2);
            check.idle("22: book(0, " + far + ")", Scenes::lively, x -> x.book(0, far), -2);
        }
    }

    private static void promise22Latest() {
        for (int days : new int[] {1, 29, 30, 31, 59, 60}) {
            LeftGlove x = Check.people(5, 0, 6, 9999);
            x.bargain(1, 0, 99, 0, 0);
            Check.text(x, "fine day+1;");
            x.by(0);
            x.day(days);
            int many = Math.min(days, 30);
            check.due("22: how many of " + days, x.book(-1, 0), many);
            for (int i = 0; i < many; i++) {
                check.due("22: DAY, from the eldest on", x.book(i, 0), days - many + i);
                check.due("22: who", x.book(i, 1), 1);
                check.due("22: how much", x.book(i, 2), days - many + i + 1);
            }
            check.due("22: none behind", x.book(many, 0), -2);
        }
        LeftGlove y = Scenes.onDay(9998);
        Check.text(y, "fine 99;");
        y.by(2);
        y.day(1);
        check.due("22: a fine of the last DAY that passes", y.book(0, 0), 9998);
        check.due("22: of 99", y.book(0, 2), 99);
        LeftGlove z = new LeftGlove();
        for (int one = 0; one < 7; one++) {
            z.one(5, one == 6 ? 98 : 1);
        }
        z.bargain(6, 0, 9, 0, 0);
        Check.text(z, "fine 98;");
        z.by(0);
        z.day(1);
        check.due("22: who may be 6", z.book(0, 1), 6);
        check.due("22: how much", z.book(0, 2), 98);
    }

    private static void promise23Foretold() {
        for (int n : new int[] {0, 61, -1}) {
            for (int what = 0; what <= 2; what++) {
                int asked = what;
                check.idle("23: n " + n + ", " + what, Scenes::lively, x -> x.foretold(n, 0, asked), -1);
            }
        }
        for (int what : new int[] {-1, 3, -2}) {
            check.idle("23: what " + what, Scenes::lively, x -> x.foretold(1, 0, what), -1);
        }
        for (int one : new int[] {-1, 4, 7}) {
            check.idle("23: COLD of " + one, Scenes::lively, x -> x.foretold(1, one, 1), -1);
            check.idle("23: COINS of " + one, Scenes::lively, x -> x.foretold(1, one, 2), -1);
            check.idle("23: FROST, whoever: " + one, Scenes::lively, x -> x.foretold(1, one, 0), 6);
        }
        for (int far : Scenes.FAR) {
            check.idle("23: n " + far, Scenes::lively, x -> x.foretold(far, 0, 0), -1);
            check.idle("23: COLD of " + far, Scenes::lively, x -> x.foretold(1, far, 1), -1);
            check.idle("23: FROST, whoever: " + far, Scenes::lively, x -> x.foretold(1, far, 0), 6);
            check.idle("23: what " + far, Scenes::lively, x -> x.foretold(1, 0, far), -1);
        }
        for (int n : new int[] {1, 2, 5, 59, 60}) {
            LeftGlove then = Scenes.lively();
            int frost = then.day(n);
            check.idle("23: FROST behind " + n, Scenes::lively, x -> x.foretold(n, 0, 0), frost);
            for (int one = 0; one < 4; one++) {
                int asked = one;
                check.idle("23: COLD behind " + n, Scenes::lively, x -> x.foretold(n, asked, 1), then.of(one, 2));
                check.idle("23: COINS behind " + n, Scenes::lively, x -> x.foretold(n, asked, 2), then.of(one, 1));
            }
        }
        check.idle("23: of nobody", LeftGlove::new, x -> x.foretold(60, 0, 0) >= 0 ? 1 : 0, 1);
    }

    private static void promise23LastDay() {
        LeftGlove last = Scenes.onDay(9990);
        last.day(9);
        for (int n : new int[] {9, 10, 60}) {
            check.idle("23: those that can pass, FROST", () -> Scenes.onDay(9990), x -> x.foretold(n, 0, 0), last.is(1));
            check.idle("23: those that can pass, COINS", () -> Scenes.onDay(9990), x -> x.foretold(n, 0, 2), 9990);
            check.idle("23: those that can pass, COLD", () -> Scenes.onDay(9990), x -> x.foretold(n, 1, 1), last.of(1, 2));
        }
        check.idle("23: eight of them", () -> Scenes.onDay(9990), x -> x.foretold(8, 0, 2), 9991);
        LeftGlove now = Scenes.onDay(9999);
        check.idle("23: none can pass, FROST", () -> Scenes.onDay(9999), x -> x.foretold(60, 0, 0), now.is(1));
        check.idle("23: none can pass, COINS", () -> Scenes.onDay(9999), x -> x.foretold(1, 0, 2), 9999);
    }

    private static LeftGlove finedBy(int day, String law) {
        LeftGlove x = Scenes.onDay(day);
        Check.text(x, law);
        x.by(2);
        return x;
    }

    private static void promise24FirstFine() {
        for (int one : new int[] {-1, 2, 7, Integer.MIN_VALUE, Integer.MAX_VALUE}) {
            check.idle("24: nobody: " + one, () -> Scenes.onDay(0), x -> x.firstFine(one), -1);
        }
        check.idle("24: in one DAY", () -> Scenes.onDay(0), x -> x.firstFine(0), 1);
        check.idle("24: none without RIGHTS", () -> Scenes.onDay(0), x -> x.firstFine(1), -1);
        check.idle("24: none without COINS", () -> {
            LeftGlove x = Check.people(5, 0, 6, 0);
            x.bargain(0, 1, 9, 0, 0);
            return x;
        }, x -> x.firstFine(0), -1);
        int[][] due = {{0, 1}, {1, 2}, {58, 59}, {59, 60}, {60, -1}, {61, -1}, {9999, -1}};
        for (int[] d : due) {
            String law = "fine if day<" + d[0] + " then 0 else 1 end;";
            check.idle("24: " + law, () -> finedBy(0, law), x -> x.firstFine(0), d[1]);
        }
        check.idle("24: a fine of 0 is none", () -> finedBy(0, "fine 0;"), x -> x.firstFine(0), -1);
        check.idle("24: on DAY 9998", () -> finedBy(9990, "fine day-9997;"), x -> x.firstFine(0), 9);
        check.idle("24: DAY 9999 can't pass", () -> finedBy(9990, "fine day-9998;"), x -> x.firstFine(0), -1);
        check.idle("24: none can pass", () -> finedBy(9999, "fine 1;"), x -> x.firstFine(0), -1);
        check.idle("24: one can", () -> finedBy(9998, "fine 1;"), x -> x.firstFine(0), 1);
    }

    private static void promise25Free() {
        check.idle("25: nobody", LeftGlove::new, x -> x.free(), 0);
        check.idle("25: all seven", Scenes::sevenPeople, x -> x.free(), 127);
        check.idle("25: 2 and 3", Scenes::lively, x -> x.free(), 12);
        check.idle("25: none", Scenes::twelveGloves, x -> x.free(), 0);
        LeftGlove x = Scenes.sevenPeople();
        x.bargain(6, 0, 2, 0, 0);
        check.due("25: but the seventh", x.free(), 63);
        x.pledge(0);
        check.due("25: a pawned one is a RIGHT", x.free(), 63);
        x.redeem(0);
        x.lose(0);
        check.due("25: a lost one isn't", x.free(), 127);
        x.find(0, 1);
        x.work(0, 2);
        check.due("25: nor a done one", x.free(), 127);
    }

    /** Bargains FROM one to the next, two by two. */
    private static LeftGlove owed(int... fromTo) {
        LeftGlove x = Scenes.sevenPeople();
        for (int i = 0; i < fromTo.length; i += 2) {
            x.bargain(fromTo[i], fromTo[i + 1], 9, 0, 0);
        }
        return x;
    }

    private static void promise39Ring() {
        check.idle("39: none of nobody", LeftGlove::new, x -> x.ring(), 0);
        check.idle("39: none of one glove", () -> owed(0, 1), x -> x.ring(), 0);
        check.idle("39: none of a chain", () -> owed(0, 1, 1, 2, 2, 3, 3, 4, 4, 5, 5, 6), x -> x.ring(), 0);
        check.idle("39: none of two alike", () -> owed(0, 1, 0, 1), x -> x.ring(), 0);
        check.idle("39: two", () -> owed(0, 1, 1, 0), x -> x.ring(), 3);
        check.idle("39: three", () -> owed(2, 0, 0, 1, 1, 2), x -> x.ring(), 7);
        check.idle("39: six", () -> owed(0, 1, 1, 2, 2, 3, 3, 4, 4, 5, 5, 0), x -> x.ring(), 63);
        check.idle("39: seven", () -> owed(0, 1, 1, 2, 2, 3, 3, 4, 4, 5, 5, 6, 6, 0), x -> x.ring(), 127);
        check.idle("39: seven, from the last on", () -> owed(6, 5, 5, 4, 4, 3, 3, 2, 2, 1, 1, 0, 0, 6), x -> x.ring(), 127);
        check.idle("39: the shortest", () -> owed(0, 1, 1, 2, 2, 0, 3, 4, 4, 3), x -> x.ring(), 24);
        check.idle("39: the last two of twelve",
            () -> owed(0, 1, 0, 2, 0, 3, 0, 4, 0, 5, 0, 6, 1, 2, 1, 3, 1, 4, 1, 5, 5, 6, 6, 5), x -> x.ring(), 3072);
        LeftGlove x = owed(0, 1, 1, 0);
        x.pledge(0);
        check.due("39: a pawned one is none of it", x.ring(), 0);
        x.redeem(0);
        check.due("39: an owed one is", x.ring(), 3);
        x.lose(1);
        check.due("39: a lost one isn't", x.ring(), 0);
        x.find(1, 0);
        x.work(1, 9);
        check.due("39: a done one neither", x.ring(), 0);
    }

    private static void promise39LowestSet() {
        check.idle("39: of like ones the lowest set", () -> owed(0, 1, 2, 3, 3, 2, 1, 0), x -> x.ring(), 6);
        check.idle("39: by its highest glove", () -> owed(0, 1, 2, 3, 1, 0, 3, 2), x -> x.ring(), 5);
        check.idle("39: two ways for one step", () -> owed(0, 1, 0, 1, 1, 0), x -> x.ring(), 5);
        check.idle("39: two ways for the last", () -> owed(0, 1, 1, 0, 1, 0), x -> x.ring(), 3);
        check.idle("39: three each", () -> owed(0, 1, 3, 4, 4, 5, 5, 3, 1, 2, 2, 0), x -> x.ring(), 14);
        // nobody is in it twice: 0 1 0 2 0 is two rounds of two
        check.idle("39: no one twice", () -> owed(0, 1, 1, 2, 2, 1, 2, 0), x -> x.ring(), 6);
    }

    private static void promise40Richest() {
        check.idle("40: nobody", LeftGlove::new, x -> x.richest(), -1);
        check.idle("40: nobody has LEFTS", Scenes::sevenPeople, x -> x.richest(), -1);
        check.idle("40: of lively ones", Scenes::lively, x -> x.richest(), 1);
        LeftGlove x = Scenes.sevenPeople();
        x.bargain(0, 6, 1, 0, 0);
        check.due("40: WORK 1 is enough", x.richest(), 6);
        x.bargain(0, 3, 1, 0, 0);
        check.due("40: of like ones the lowest", x.richest(), 3);
        x.bargain(0, 6, 1, 0, 0);
        check.due("40: two of 1", x.richest(), 6);
        x.bargain(1, 0, 2, 0, 0);
        check.due("40: as one of 2", x.richest(), 0);
        x.pledge(3);
        check.due("40: a pawned one is no LEFT", x.richest(), 6);
        x.lose(0);
        check.due("40: a lost one neither", x.richest(), 3);
        x.work(1, 1);
        check.due("40: nor a done one", x.richest(), 6);
        x.lose(2);
        check.due("40: none any more", x.richest(), -1);
    }

    private static LeftGlove eightGrown() {
        LeftGlove x = Scenes.twelveGloves();
        for (int i = 0; i < 8; i++) {
            x.grown(i, 1);
        }
        Check.text(x, "");
        return x;
    }

    private static void promise41Grown() {
        int[][] others = {{-2, 1}, {5, 1}, {11, 1}, {12, 1}, {0, -1}, {0, 10}, {5, -1}};
        for (int[] o : others) {
            check.idle("41: grown(" + o[0] + ", " + o[1] + ")", Scenes::lively, x -> x.grown(o[0], o[1]), -2);
        }
        for (int far : Scenes.FAR) {
            check.idle("41: grown(" + far + ", 1)", Scenes::lively, x -> x.grown(far, 1), -2);
            check.idle("41: grown(0, " + far + ")", Scenes::lively, x -> x.grown(0, far), -2);
        }
        check.idle("41: no glove is there", Scenes::three, x -> x.grown(0, 1), -2);
        LeftGlove x = Scenes.twelveGloves();
        check.due("41: by 0 is the least", x.grown(0, 0), 1);
        check.due("41: by 9 is the most", x.grown(11, 9), 2);
        check.due("41: the same once more", x.grown(11, 9), 3);
        check.due("41: none any more", x.grown(-1, 0), 0);
        check.due("41: none", x.about(7), 0);
        for (int i = 1; i <= 8; i++) {
            check.due("41: how many", x.grown(i, 1), i);
        }
        check.idle("41: if there are 8", BoundsAsksTest::eightGrown, y -> y.grown(0, 2), -2);
        LeftGlove y = eightGrown();
        check.due("41: none any more of 8", y.grown(-1, 5), 0);
        check.due("41: nothing told, all are so", y.whoseLaw(), 1);
        check.due("41: room again", y.grown(0, 1), 1);
        check.due("41: just this is told", y.whoseLaw(), 1);
        check.due("41: none of none", Scenes.three().grown(-1, 0), 0);
        check.due("41: telling is no STEP", y.about(3), 12);
    }

    private static LeftGlove fourLaws() {
        LeftGlove x = Scenes.twelveGloves();
        Check.text(x, "grows 0;");
        Check.text(x, "fine 1;");
        Check.text(x, "grows leather;");
        Check.text(x, "grows 99;");
        return x;
    }

    private static void promise42WhoseLaw() {
        check.idle("42: no TEXTS", Scenes::twelveGloves, x -> x.whoseLaw(), 0);
        check.idle("42: nothing is told", BoundsAsksTest::fourLaws, x -> x.whoseLaw(), 15);
        int[][] due = {{0, 0, 1 + 4}, {0, 1, 2}, {1, 1, 2 + 4}, {2, 2, 4}, {2, 9, 8}, {2, 3, 0}, {11, 2, 4}};
        for (int[] d : due) {
            check.idle("42: glove " + d[0] + " by " + d[1], () -> {
                LeftGlove x = fourLaws();
                x.grown(d[0], d[1]);
                return x;
            }, x -> x.whoseLaw(), d[2]);
        }
        LeftGlove x = fourLaws();
        x.grown(0, 0);
        x.grown(1, 1);
        check.due("42: all are so", x.whoseLaw(), 4);
        x.grown(2, 2);
        check.due("42: all of three", x.whoseLaw(), 4);
        x.grown(2, 1);
        check.due("42: not all", x.whoseLaw(), 0);
        x.grown(-1, 0);
        check.due("42: none told any more", x.whoseLaw(), 15);
        x.by(0);
        x.grown(1, 1);
        check.due("42: whichever rules", x.whoseLaw(), 6);
    }

    private static void promise42Aside() {
        LeftGlove x = fourLaws();
        x.grown(11, 9);
        x.grown(10, 9);
        check.due("42: both by 9", x.whoseLaw(), 8);
        x.grown(9, 0);
        check.due("42: not that", x.whoseLaw(), 0);
        x.undo();
        x.undo();
        check.due("42: two aren't there any more", x.whoseLaw(), 5);
        check.due("42: told yet", x.about(7), 3);
        x.undo();
        check.due("42: none is there any more", x.whoseLaw(), 15);
        x.bargain(0, 1, 9, 1, 0);
        check.due("42: there again", x.whoseLaw(), 1);
        check.due("42: one that isn't there can't be told", x.grown(10, 1), -2);
    }

    private static void promise43Fined() {
        for (int one : new int[] {4, 7, -2, Integer.MIN_VALUE, Integer.MAX_VALUE}) {
            check.idle("43: fined(" + one + ")", Scenes::lively, x -> x.fined(one), -2);
        }
        int[] due = {11, 8, 3, 0, 0};
        for (int one = -1; one < 4; one++) {
            int asked = one;
            check.idle("43: fined(" + one + ")", Scenes::lively, x -> x.fined(asked), due[one + 1]);
        }
        check.idle("43: nobody is told", LeftGlove::new, x -> x.fined(0), -2);
        check.idle("43: nothing is written", LeftGlove::new, x -> x.fined(-1), 0);
        LeftGlove x = Scenes.onDay(0);
        Check.text(x, "fine 99;");
        x.by(2);
        x.day(30);
        check.due("43: 30 fines", x.fined(-1), 2970);
        x.day(30);
        check.due("43: the latest 30", x.fined(0), 2970);
        check.due("43: who never was", x.fined(1), 0);
    }

    private static void promise44Pairs() {
        check.idle("44: none", LeftGlove::new, x -> x.pairs(), 0);
        check.idle("44: of one glove none", () -> owed(0, 1), x -> x.pairs(), 0);
        check.idle("44: gloves 0 and 3", Scenes::lively, x -> x.pairs(), 1);
        LeftGlove x = Check.people(5, 0, 5, 0, 6, 0);
        for (int i = 0; i < 12; i++) {
            x.bargain(i % 2, 2, 9, 1, i % 10);
        }
        check.due("44: twelve alike", x.pairs(), 66);
        x.undo();
        check.due("44: eleven alike", x.pairs(), 55);
        x.bargain(2, 0, 9, 1, 0);
        check.due("44: another size", x.pairs(), 55);
        x.undo();
        x.bargain(0, 2, 9, 2, 0);
        check.due("44: another leather", x.pairs(), 55);
        x.pledge(0);
        check.due("44: a pawned one is OPEN", x.pairs(), 55);
        x.lose(1);
        check.due("44: a lost one isn't", x.pairs(), 45);
        x.work(2, 9);
        check.due("44: nor a done one", x.pairs(), 36);
    }

    private static void promise45Coldest() {
        check.idle("45: nobody is told", LeftGlove::new, x -> x.coldest(), -1);
        check.idle("45: COLD 0, too, the lowest", Scenes::sevenPeople, x -> x.coldest(), 0);
        LeftGlove x = Scenes.sevenPeople();
        Check.text(x, "chill who;");
        Check.text(x, "chill 6-who;");
        x.by(0);
        x.day(1);
        check.due("45: the last", x.coldest(), 6);
        x.by(1);
        x.day(1);
        check.due("45: all alike: the lowest", x.coldest(), 0);
        x.undo();
        x.undo();
        Check.text(x, "chill if who<3 then 0 else 99 end;");
        x.by(2);
        x.day(1);
        check.due("45: of four alike the lowest", x.coldest(), 3);
        for (int i = 0; i < 2; i++) {
            x.day(60);
        }
        check.due("45: COLD 9999", x.of(3, 2), 9999);
        Check.text(x, "chill if who=6 then 99 else 0 end;");
        x.by(3);
        x.day(1);
        check.due("45: no one is above 9999", x.coldest(), 3);
    }

    private static void promise46And47Image() {
        check.due("46: DAY", Scenes.lively().image(), 2);
        check.due("46: DAY 0", new LeftGlove().image(), 0);
        check.due("46: DAY 9999", Scenes.onDay(9999).image(), 9999);
        LeftGlove x = Scenes.lively();
        x.image();
        check.due("47: back at once", x.back(), 2);
        LeftGlove y = Scenes.lively();
        y.image();
        check.same("47: nothing was between", Shown.of(x), Shown.of(y));
        LeftGlove z = Scenes.lively();
        z.image();
        changeAll(z);
        check.due("47: DAY", z.back(), 2);
        LeftGlove w = Scenes.lively();
        w.image();
        check.same("47: all is so again", Shown.of(z), Shown.of(w));
        LeftGlove v = Scenes.lively();
        v.image();
        for (int i = 0; i < 3; i++) {
            changeAll(v);
            check.due("47: it stays", v.back(), 2);
        }
        LeftGlove u = Scenes.lively();
        u.image();
        check.same("47: as often as it is asked", Shown.of(v), Shown.of(u));
    }

    /** Changes what an image has, but not the tape nor the latest FAULT. */
    private static void changeAll(LeftGlove x) {
        x.one(9, 9999);
        x.bargain(4, 0, 99, 0, 0);
        x.work(0, 9);
        x.pass(4, 3);
        x.find(2, 1);
        x.redeem(3);
        x.by(1);
        x.price(0, 9);
        x.price(11, 0);
        x.test(-1);
        x.claim(9999);
        x.chest(-1, 0);
        x.grown(4, 9);
        x.winters(9, 40);
        x.day(20);
        x.undo();
    }

    private static void promise47Full() {
        LeftGlove x = Scenes.twelveGloves();
        x.day(60);
        x.image();
        int draw = x.is(2);
        x.day(45);
        x.winters(3, 40);
        check.due("47: DAY 60", x.back(), 60);
        check.due("47: X", x.is(2), draw);
        check.due("47: 30 STEPS", x.about(3), 30);
        for (int i = 29; i >= 0; i--) {
            check.due("47: each as then", x.undo() + 100 * x.is(0), i + 100 * (30 + i));
        }
        check.due("47: no more", x.undo(), -1);
        check.due("47: and back again", x.back(), 60);
        check.due("47: 30 STEPS again", x.about(3), 30);
        LeftGlove y = Scenes.fourTexts();
        y.by(3);
        check.due("47: to a new object", y.back(), 0);
        check.due("47: no TEXTS", y.about(1), 0);
        check.due("47: none rules", y.about(2), -1);
        check.due("47: nobody", y.about(0), 0);
        check.due("47: TEXTS from 0 on again", Check.text(y, "chill 9;"), 0);
        check.due("47: it can rule", y.by(0), true);
        check.due("47: no second one", y.by(1), false);
    }

    private static void promise47TapeAndFault() {
        LeftGlove x = Scenes.three();
        Check.tape(x, "chill 7;");
        x.image();
        Check.tape(x, "chill 8; ");
        x.back();
        check.due("47: the tape isn't of it", x.about(8), 9);
        check.due("47: it is read", x.text(), 0);
        x.by(0);
        check.due("47: as it was told last", x.of(0, 5), 8);
        check.due("47: no FAULT", x.fault(0), 0);
        x.image();
        Check.text(x, "chill 10000;");
        x.back();
        check.due("47: nor is the latest FAULT", x.fault(0), 2);
        check.due("47: nor its place", x.fault(1), 6);
        check.due("47: the TEXT is", x.about(1), 1);
        x.image();
        Check.text(x, "chill 1;");
        x.back();
        check.due("47: no FAULT again", x.fault(0), 0);
        check.due("47: one TEXT", x.about(1), 1);
    }

    /** Each of what is told two by two, or in a row, is as it was, though as many others were told since. */
    private static void promise47WhatIsTold() {
        LeftGlove x = Scenes.twelveGloves();
        Check.text(x, "grows 2;");
        x.price(0, 2);
        x.price(11, 3);
        x.test(1);
        x.test(2);
        x.claim(100);
        x.claim(200);
        x.chest(5, 0);
        x.chest(7, 2);
        x.grown(0, 2);
        x.image();
        int cost = x.order(0, -1) + x.order(2, -1);
        x.test(-1);
        x.claim(-1);
        x.chest(-1, 0);
        x.grown(-1, 0);
        x.price(0, 9);
        x.price(11, 9);
        x.test(0);
        x.test(0);
        x.claim(9);
        x.claim(0);
        x.chest(6, 1);
        x.chest(7, 0);
        x.grown(3, 5);
        check.due("47: none is so", x.whoseLaw(), 0);
        check.due("47: other ways", x.lives(-1), 2);
        check.due("47: not to be told apart", x.tries(7, false), -2);
        x.back();
        check.due("47: PRICES", x.order(0, -1) + x.order(2, -1), cost);
        check.due("47: TESTS", x.tries(7, false), 2);
        check.due("47: CLAIMS", x.estate(300, 0, false) + x.estate(300, 1, false), 300);
        // hands 5 7 6: 5 by 0 is the first, 7 by 2 one of the others
        check.due("47: CHESTS, sizes and slacks", x.lives(-1), 2);
        check.due("47: sure", x.lives(0), 0);
        check.due("47: not sure", x.lives(1), -1);
        check.due("47: GROWN, gloves and by how much", x.whoseLaw(), 1);
        check.due("47: one of them", x.about(7), 1);
    }
}
