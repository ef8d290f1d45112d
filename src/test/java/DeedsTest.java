/** Promises 8 to 18: bargains, work, passing on, losing, finding, pawns, days, playing, winters, taking back. */
public final class DeedsTest {
    private static final Check check = new Check();

    public static void main(String[] args) {
        bargains();
        works();
        passes();
        loses();
        finds();
        pledges();
        redeems();
        days();
        weeks();
        lastDay();
        fines();
        plays();
        playsToTheLastDay();
        winters();
        undoes();
        undoesPeopleToldSince();
        undoesThirtyAtMost();
        check.close("DeedsTest");
    }

    private static LeftGlove three() {
        return Check.people(5, 20, 7, 3, 6, 0);
    }

    private static void bargains() {
        LeftGlove x = three();
        check.due("with oneself", x.bargain(1, 1, 5, 0, 0), -1);
        check.due("from nobody", x.bargain(3, 1, 5, 0, 0), -1);
        check.due("by nobody", x.bargain(1, 3, 5, 0, 0), -1);
        check.due("from -1", x.bargain(-1, 1, 5, 0, 0), -1);
        check.due("by -1", x.bargain(1, -1, 5, 0, 0), -1);
        check.due("work 0", x.bargain(0, 1, 0, 0, 0), -1);
        check.due("work 100", x.bargain(0, 1, 100, 0, 0), -1);
        check.due("leather -1", x.bargain(0, 1, 1, -1, 0), -1);
        check.due("leather 3", x.bargain(0, 1, 1, 3, 0), -1);
        check.due("mark -1", x.bargain(0, 1, 1, 0, -1), -1);
        check.due("mark 10", x.bargain(0, 1, 1, 0, 10), -1);
        check.due("none there, no step", x.is(3) + x.about(3), 0);
        check.due("the first", x.bargain(1, 2, 99, 2, 9), 0);
        int[] due = {1, 2, 99, 2, 9, 7, 0};
        for (int what = 0; what < due.length; what++) {
            check.due("ofGlove(0, " + what + ")", x.ofGlove(0, what), due[what]);
        }
        for (int i = 1; i < 12; i++) {
            check.due("glove " + i, x.bargain(0, 1, 1, 0, 0), i);
        }
        check.due("a thirteenth", x.bargain(0, 1, 1, 0, 0), -1);
        check.due("twelve steps", x.about(3), 12);
    }

    private static void works() {
        LeftGlove x = three();
        x.bargain(0, 1, 12, 0, 0);
        check.due("hours 0", x.work(0, 0), -1);
        check.due("hours 10", x.work(0, 10), -1);
        check.due("no such glove", x.work(1, 1), -1);
        check.due("glove -1", x.work(-1, 1), -1);
        check.due("5 of 12", x.work(0, 5), 7);
        x.pledge(0);
        check.due("at a pawned one", x.work(0, 1), 6);
        check.due("it is pawned yet", x.ofGlove(0, 6), 3);
        check.due("all and more", x.work(0, 9), 0);
        check.due("it is done", x.ofGlove(0, 6), 1);
        check.due("at a done one", x.work(0, 1), -1);
        x.bargain(0, 1, 2, 0, 0);
        x.lose(1);
        check.due("at a lost one", x.work(1, 1), -1);
        x.find(1, 2);
        check.due("to the very end", x.work(1, 2), 0);
        check.due("done too", x.ofGlove(1, 6), 1);
    }

    private static void passes() {
        LeftGlove x = three();
        x.bargain(0, 1, 12, 0, 0);
        check.due("to whom it is from", x.pass(0, 0), false);
        check.due("to who holds it", x.pass(0, 1), false);
        check.due("to nobody", x.pass(0, 3), false);
        check.due("to -1", x.pass(0, -1), false);
        check.due("no such glove", x.pass(1, 2), false);
        check.due("glove -1", x.pass(-1, 2), false);
        check.due("to another one", x.pass(0, 2), true);
        check.due("who holds it", x.ofGlove(0, 1), 2);
        check.due("from whom it is stays", x.ofGlove(0, 0), 0);
        x.pledge(0);
        check.due("a pawned one", x.pass(0, 1), false);
        x.redeem(0);
        x.lose(0);
        check.due("a lost one", x.pass(0, 1), false);
        x.find(0, 2);
        x.work(0, 9);
        x.work(0, 9);
        check.due("a done one", x.pass(0, 1), false);
    }

    private static void loses() {
        LeftGlove x = three();
        x.bargain(0, 1, 12, 0, 0);
        x.bargain(0, 1, 12, 0, 0);
        x.bargain(0, 1, 2, 0, 0);
        check.due("no such glove", x.lose(3), false);
        check.due("glove -1", x.lose(-1), false);
        check.due("lost", x.lose(0), true);
        check.due("how it is", x.ofGlove(0, 6), 2);
        check.due("lost twice", x.lose(0), false);
        x.pledge(1);
        check.due("a pawned one", x.lose(1), false);
        x.work(2, 2);
        check.due("a done one", x.lose(2), false);
    }

    private static void finds() {
        LeftGlove x = three();
        x.bargain(0, 1, 12, 0, 0);
        check.due("one that isn't lost", x.find(0, 2), false);
        x.lose(0);
        check.due("by whom it is from", x.find(0, 0), false);
        check.due("by nobody", x.find(0, 3), false);
        check.due("by -1", x.find(0, -1), false);
        check.due("no such glove", x.find(1, 2), false);
        check.due("glove -1", x.find(-1, 2), false);
        check.due("by another one", x.find(0, 2), true);
        check.due("who holds it", x.ofGlove(0, 1), 2);
        check.due("it is owed", x.ofGlove(0, 6), 0);
        x.lose(0);
        check.due("by who held it", x.find(0, 2), true);
        check.due("five steps", x.about(3), 5);
    }

    private static void pledges() {
        LeftGlove x = Check.people(5, 20, 7, 9990, 6, 0);
        x.bargain(0, 1, 50, 0, 0);
        x.bargain(0, 2, 9, 0, 0);
        x.bargain(0, 2, 1, 0, 0);
        check.due("no such glove", x.pledge(3), -1);
        check.due("glove -1", x.pledge(-1), -1);
        check.due("worth nothing", x.pledge(2), -1);
        check.due("it is owed yet", x.ofGlove(2, 6), 0);
        check.due("for 25", x.pledge(0), 25);
        check.due("9999 coins at most", x.of(1, 1), 9999);
        check.due("for 4", x.pledge(1), 4);
        check.due("4 more", x.of(2, 1), 4);
        check.due("it is pawned", x.ofGlove(1, 6), 3);
        check.due("twice", x.pledge(1), -1);
        x.bargain(0, 2, 2, 0, 0);
        check.due("for 1", x.pledge(3), 1);
        x.undo();
        x.undo();
        x.redeem(1);
        x.lose(1);
        check.due("a lost one", x.pledge(1), -1);
        check.due("steps", x.about(3), 7);
    }

    private static void redeems() {
        LeftGlove x = three();
        x.bargain(0, 2, 9, 0, 0);
        x.bargain(0, 1, 2, 0, 0);
        check.due("one that isn't pawned", x.redeem(0), -1);
        check.due("no such glove", x.redeem(2), -1);
        check.due("glove -1", x.redeem(-1), -1);
        x.pledge(0);
        Check.text(x, "pawn 5;");
        Check.text(x, "pawn 0;");
        x.by(0);
        check.due("too dear now", x.redeem(0), -1);
        check.due("it is pawned yet", x.ofGlove(0, 6), 3);
        x.by(-1);
        check.due("for all that there is", x.redeem(0), 4);
        check.due("no coins are left", x.of(2, 1), 0);
        check.due("it is owed", x.ofGlove(0, 6), 0);
        x.pledge(0);
        x.by(1);
        check.due("for nothing", x.redeem(0), 0);
        check.due("that was a step", x.about(3), 6);
        check.due("coins are kept", x.of(2, 1), 4);
        check.due("pawn 0 can't be pawned", x.pledge(1), -1);
    }

    private static void days() {
        LeftGlove x = three();
        check.due("day(0)", x.day(0), -1);
        check.due("day(61)", x.day(61), -1);
        check.due("day(-1)", x.day(-1), -1);
        check.due("none passed", x.is(0), 0);
        check.due("the first draw: 139 by 10", x.day(1), 9);
        check.due("X anew", x.is(2), 21631);
        check.due("FROST", x.is(1), 9);
        check.due("at frost 0 nobody is cold", x.of(0, 2), 0);
        check.due("the second", x.day(1), 1);
        check.due("two bare hands at frost 9", x.of(0, 2), 18);
        check.due("X anew", x.is(2), 25326);
        check.due("sixty", x.day(60) >= 0, true);
        check.due("DAY", x.is(0), 62);
    }

    private static void weeks() {
        LeftGlove x = three();
        x.bargain(0, 1, 10, 0, 0);
        x.bargain(0, 1, 99, 0, 0);
        x.bargain(0, 1, 10, 0, 0);
        x.bargain(0, 1, 1, 0, 0);
        x.bargain(0, 1, 10, 0, 0);
        x.lose(2);
        x.work(3, 1);
        x.pledge(4);
        x.day(6);
        check.due("not before day 6", x.ofGlove(0, 2), 10);
        x.day(1);
        int[] due = {11, 99, 10, 0, 11};
        for (int glove = 0; glove < due.length; glove++) {
            check.due("WORK of " + glove, x.ofGlove(glove, 2), due[glove]);
        }
        x.day(6);
        check.due("not before day 13", x.ofGlove(0, 2), 11);
        x.day(1);
        check.due("on day 13", x.ofGlove(0, 2), 12);
        Check.text(x, "grows 9;");
        x.by(0);
        x.day(7);
        check.due("by the law", x.ofGlove(0, 2), 21);
    }

    private static void lastDay() {
        LeftGlove x = three();
        Check.text(x, "chill 99;");
        x.by(0);
        for (int i = 0; i < 166; i++) {
            x.day(60);
        }
        check.due("DAY", x.is(0), 9960);
        check.due("COLD is 9999 at most", x.of(0, 2), 9999);
        int draw = x.is(2);
        check.due("beyond 9999", x.day(40), -1);
        check.due("nothing is done", x.is(0), 9960);
        check.due("nothing is drawn", x.is(2), draw);
        check.due("foretold: those that can pass", x.foretold(60, 0, 0), x.foretold(39, 0, 0));
        check.due("to 9999", x.day(39) >= 0, true);
        check.due("DAY", x.is(0), 9999);
        check.due("none can pass", x.day(1), -1);
        check.due("foretold: none", x.foretold(1, 0, 0), x.is(1));
        x.winters(0, 40);
        check.due("nor in winters", x.is(0), 9999);
    }

    private static void fines() {
        LeftGlove x = Check.people(5, 5, 7, 0, 6, 9);
        x.bargain(0, 1, 50, 0, 0);
        x.bargain(0, 1, 50, 0, 0);
        x.bargain(1, 2, 50, 0, 0);
        x.day(3);
        check.due("2, 2 and the last 1", x.of(0, 1), 0);
        check.due("nothing from who has nothing", x.of(1, 1), 0);
        check.due("nothing from who owes nothing", x.of(2, 1), 9);
        check.due("three fines", x.book(-1, 0), 3);
        check.due("the third", x.book(2, 2), 1);
        LeftGlove y = Check.people(5, 500, 7, 500);
        y.bargain(0, 1, 50, 0, 0);
        Check.text(y, "chill 3;fine cold;");
        Check.text(y, "fine 0;");
        y.by(0);
        y.day(1);
        check.due("the fine sees the cold of that day", y.of(0, 1), 497);
        check.due("no rights, no fine", y.of(1, 1), 500);
        y.by(1);
        y.day(1);
        check.due("a fine of 0 isn't written", y.book(-1, 0), 1);
        y.by(-1);
        y.lose(0);
        y.day(1);
        check.due("a lost one is no right", y.of(0, 1), 497);
    }

    private static void plays() {
        LeftGlove x = new LeftGlove();
        Check.text(x, "one 5 coins 20;one 7 coins 3;fine 0;owe 0 to 1 work 9 leather 1 mark 2;do 0 hours 2;pledge 0;"
            + "redeem 0;day 2;one 6 coins 0;pass 0 to 2;lose 0;");
        Check.text(x, "chill 1;lose 5;day 1;");
        Check.text(x, "");
        check.due("played(3)", x.played(3), -2);
        check.due("played(-1)", x.played(-1), -2);
        check.due("all is done", x.played(0), -1);
        check.due("people", x.about(0), 3);
        check.due("WORK", x.ofGlove(0, 2), 7);
        check.due("SIZE", x.ofGlove(0, 5), 5);
        check.due("LEATHER", x.ofGlove(0, 3), 1);
        check.due("MARK", x.ofGlove(0, 4), 2);
        check.due("passed on", x.ofGlove(0, 1), 2);
        check.due("lost", x.ofGlove(0, 6), 2);
        check.due("DAY", x.is(0), 2);
        check.due("played isn't ruled: fines are rights", x.of(0, 1), 18);
        check.due("steps: owe, do, pledge, redeem, two days, pass, lose", x.about(3), 8);
        check.due("what can't be ends it, laws count", x.played(1), 1);
        check.due("nothing behind it", x.is(0), 2);
        check.due("an empty one", x.played(2), -1);
        check.due("once more", x.played(0), 4);
        check.due("what was done stays", x.is(3), 2);
        check.due("people too", x.about(0), 5);
    }

    private static void playsToTheLastDay() {
        LeftGlove x = three();
        Check.text(x, "day 60;".repeat(24));
        for (int i = 0; i < 6; i++) {
            check.due("24 times 60 days", x.played(0), -1);
        }
        check.due("DAY", x.is(0), 8640);
        check.due("those that can pass do", x.played(0), 22);
        check.due("to the last one", x.is(0), 9999);
        check.due("none can", x.played(0), 0);
        check.due("thirty steps", x.about(3), 30);
        x.undo();
        check.due("each day is a step", x.is(0), 9998);
    }

    private static void winters() {
        LeftGlove x = new LeftGlove();
        check.due("without people", x.winters(0, 1), -1);
        x.one(5, 20);
        check.due("seed -1", x.winters(-1, 1), -1);
        check.due("seed 10000", x.winters(10000, 1), -1);
        check.due("n 0", x.winters(0, 0), -1);
        check.due("n 41", x.winters(0, 41), -1);
        check.due("no step", x.about(3), 0);
        x.one(7, 3);
        x.one(6, 0);
        // x 139: a day, X 21631, frost 1, X 25326; x 25326: from 0, by 25326/7 mod 3 = 0: none
        check.due("seed 0, two draws", x.winters(0, 2), 1);
        check.due("no bargain with oneself", x.is(3), 0);
        check.due("X", x.is(2), 2079);
        check.due("one step", x.about(3), 1);
        // seed 4: x 147 is 0 mod 7: from 147 mod 3 = 0, by 21 mod 3 = 0: none; X 147*373+251 mod 30467 = 24615
        check.due("seed 4", x.winters(4, 1), 1);
        check.due("no bargain", x.is(3), 0);
        check.due("X", x.is(2), 24615);
        check.due("it is a step all the same", x.about(3), 2);
        // seed 11: x 161 is 0 mod 7: from 161 mod 3 = 2, by 23 mod 3 = 2: none. seed 18: x 175: from 1, by 25 mod 3 = 1
        // seed 32: x 203: from 203 mod 3 = 2, by 29 mod 3 = 2. With four people: 203 mod 4 = 3, 29 mod 4 = 1
        x.one(9, 9);
        check.due("seed 32", x.winters(32, 1), 1);
        check.due("a bargain", x.is(3), 1);
        int[] due = {3, 1, 4, 2, 3, 9, 0};
        for (int what = 0; what < due.length; what++) {
            check.due("drawn ofGlove(0, " + what + ")", x.ofGlove(0, what), due[what]);
        }
        // seed 2: x 143 is 3 mod 7, and 143 mod 3 = 2: not lost; seed 51: x 241 mod 7 = 3, mod 3 = 1; seed 44: 227: 3, 2
        x.winters(2, 1);
        check.due("not lost by 143", x.ofGlove(0, 6), 0);
        // seed 30: x 199 is 3 mod 7, mod 3 = 1; seed 9: x 157 is 3 mod 7, mod 3 = 1; seed 16: x 171 is 3 mod 7, mod 3 = 0
        // seed 1: x 141 is 1 mod 7: 1 + 141 mod 9 = 7 hours: it is done; taken back then
        x.winters(1, 1);
        check.due("worked", x.ofGlove(0, 6), 1);
        x.undo();
        check.due("one step back", x.ofGlove(0, 2), 4);
        // seed 5: x 149 is 2 mod 7: to 149/5 mod 4 = 1, who holds it: none; seed 12: x 163 is 2: 32 mod 4 = 0
        x.winters(5, 1);
        check.due("not passed to who holds it", x.ofGlove(0, 1), 1);
        x.winters(12, 1);
        check.due("passed", x.ofGlove(0, 1), 0);
        // seed 6: x 151 is 4 mod 7: pawned for 2
        x.winters(6, 1);
        check.due("pawned", x.ofGlove(0, 6), 3);
        check.due("for 2", x.of(0, 1), 22);
        x.redeem(0);
        x.winters(16, 1);
        check.due("lost by 171", x.ofGlove(0, 6), 2);
        // seed 8: x 155 is 1 mod 7: 1 + 155 mod 9 = 3 hours; seed 3: x 145 is 5 mod 7, seed 0: x 139 is 6: days
        x.find(0, 1);
        x.winters(8, 1);
        check.due("three hours of four", x.ofGlove(0, 2), 1);
        check.due("5 is a day", x.winters(3, 1), 2);
        check.due("6 is a day", x.winters(0, 1), 3);
        // seed 25: x 189 is 0 mod 7: from 189 mod 4 = 1, by 27 mod 4 = 3
        x.winters(25, 1);
        int[] other = {1, 3, 10, 0, 9, 7, 0};
        for (int what = 0; what < other.length; what++) {
            check.due("drawn ofGlove(1, " + what + ")", x.ofGlove(1, what), other[what]);
        }
    }

    private static void undoes() {
        LeftGlove x = three();
        check.due("none", x.undo(), -1);
        x.bargain(0, 1, 9, 0, 0);
        x.work(0, 2);
        x.pass(0, 2);
        x.pledge(0);
        x.day(2);
        check.due("the second day", x.undo(), 5);
        check.due("DAY", x.is(0), 1);
        check.due("FROST", x.is(1), 9);
        check.due("X", x.is(2), 21631);
        check.due("BOOK", x.book(-1, 0), 1);
        check.due("COINS", x.of(0, 1), 19);
        check.due("the first day", x.undo(), 4);
        check.due("BOOK", x.book(-1, 0), 0);
        check.due("X", x.is(2), 139);
        check.due("COINS of the pawn", x.of(2, 1), 3);
        check.due("the pawn", x.undo(), 3);
        check.due("COINS", x.of(2, 1), 0);
        check.due("owed", x.ofGlove(0, 6), 0);
        check.due("the passing on", x.undo(), 2);
        check.due("HELD", x.ofGlove(0, 1), 1);
        check.due("the work", x.undo(), 1);
        check.due("WORK", x.ofGlove(0, 2), 9);
        check.due("the bargain", x.undo(), 0);
        check.due("GLOVES", x.is(3), 0);
        check.due("nothing more", x.undo(), -1);
        check.due("people stay", x.about(0), 3);
        x.bargain(2, 1, 3, 1, 1);
        x.lose(0);
        x.find(0, 0);
        x.undo();
        check.due("lost again", x.ofGlove(0, 6), 2);
        check.due("HELD as ahead", x.ofGlove(0, 1), 1);
        x.undo();
        check.due("owed again", x.ofGlove(0, 6), 0);
        Check.text(x, "chill 5;");
        x.by(0);
        x.price(0, 5);
        x.undo();
        check.due("the text rules yet", x.about(2), 0);
    }

    private static void undoesPeopleToldSince() {
        LeftGlove x = Check.people(5, 20, 7, 3);
        x.bargain(0, 1, 9, 0, 0);
        x.one(6, 40);
        x.bargain(2, 0, 9, 0, 0);
        x.day(3);
        for (int i = 4; i >= 0; i--) {
            check.due("undo", x.undo(), i);
        }
        check.due("she is told yet", x.about(0), 3);
        check.due("her hand", x.of(2, 0), 6);
        check.due("her coins as told", x.of(2, 1), 40);
        check.due("her cold as told", x.of(2, 2), 0);
        check.due("his coins as ahead", x.of(0, 1), 20);
        check.due("his cold as ahead", x.of(0, 2), 0);
        LeftGlove y = new LeftGlove();
        check.due("a day of nobody", y.day(1), 9);
        y.one(8, 80);
        y.one(9, 90);
        y.day(2);
        check.due("both are cold", y.of(0, 2) + y.of(1, 2), 2 * (18 + 2));
        y.undo();
        check.due("less so", y.of(1, 2), 18);
        y.undo();
        check.due("taken back to nobody", y.undo(), 0);
        check.due("DAY", y.is(0), 0);
        check.due("two are told", y.about(0), 2);
        check.due("the hand of 0", y.of(0, 0), 8);
        check.due("the coins of 0", y.of(0, 1), 80);
        check.due("the coins of 1", y.of(1, 1), 90);
        check.due("the cold of 1", y.of(1, 2), 0);
    }

    private static void undoesThirtyAtMost() {
        LeftGlove x = three();
        x.day(60);
        check.due("thirty can be", x.about(3), 30);
        for (int i = 29; i >= 0; i--) {
            check.due("undo", x.undo(), i);
        }
        check.due("the thirty-first can't", x.undo(), -1);
        check.due("DAY", x.is(0), 30);
        x.winters(77, 40);
        x.day(29);
        for (int i = 0; i < 30; i++) {
            x.undo();
        }
        check.due("winters are one step", x.is(0), 30);
    }
}
