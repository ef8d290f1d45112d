/** Promises 1 to 7 and 48: a new object, people, the tape, texts, their faults, which one rules, and about. */
public final class TellingTest {
    private static final Check check = new Check();

    public static void main(String[] args) {
        aNewObject();
        people();
        tape();
        texts();
        faults();
        faultsOfNumbers();
        faultsOfOpenings();
        faultsOfClauses();
        ruling();
        about();
        check.close("TellingTest");
    }

    private static void aNewObject() {
        LeftGlove x = new LeftGlove();
        for (int what = 0; what <= 8; what++) {
            check.due("new about(" + what + ")", x.about(what), what == 2 ? -1 : 0);
        }
        check.due("new is(0)", x.is(0), 0);
        check.due("new is(1)", x.is(1), 0);
        check.due("new is(2)", x.is(2), 139);
        check.due("new is(3)", x.is(3), 0);
        check.due("new book", x.book(-1, 0), 0);
        x.one(3, 3);
        x.day(5);
        check.due("back to the new object", x.back(), 0);
        check.due("nobody again", x.about(0), 0);
        check.due("X again", x.is(2), 139);
        check.due("no steps again", x.undo(), -1);
    }

    private static void people() {
        LeftGlove x = new LeftGlove();
        check.due("hand 0", x.one(0, 5), -1);
        check.due("hand 10", x.one(10, 5), -1);
        check.due("coins -1", x.one(5, -1), -1);
        check.due("coins 10000", x.one(5, 10000), -1);
        check.due("far hand", x.one(Integer.MIN_VALUE, 0), -1);
        for (int i = 0; i < 7; i++) {
            check.due("one " + i, x.one(i == 0 ? 1 : 9, i == 0 ? 0 : 9999), i);
        }
        check.due("an eighth", x.one(5, 5), -1);
        check.due("its hand", x.of(0, 0), 1);
        check.due("its coins", x.of(0, 1), 0);
        check.due("its cold", x.of(0, 2), 0);
        check.due("another's hand", x.of(6, 0), 9);
        check.due("another's coins", x.of(6, 1), 9999);
    }

    private static void tape() {
        LeftGlove x = new LeftGlove();
        check.due("end of nothing", x.end(1), -1);
        for (int i = 1; i <= 15; i++) {
            check.due("feed " + i, x.feed(0, 0, 0, 0, 0), 20 * i);
        }
        check.due("a 301st byte", x.feed(0, 0, 0, 0, 0), -1);
        check.due("all stay", x.about(8), 300);
        check.due("end(301)", x.end(301), -1);
        check.due("end(-1)", x.end(-1), -1);
        check.due("end(300)", x.end(300), 300);
        check.due("end(281)", x.end(281), 281);
        check.due("feed behind 281", x.feed(0, 0, 0, 0, 0), -1);
        check.due("end(280)", x.end(280), 280);
        check.due("feed behind 280", x.feed(0, 0, 0, 0, 0), 300);
        check.due("end(0)", x.end(0), 0);
        // The highest byte of a comes first: "day 1;" and a blank tail of zeros that is cut.
        x.feed('d' << 24 | 'a' << 16 | 'y' << 8 | ' ', '1' << 24 | ';' << 16, 0, 0, 0);
        x.end(6);
        check.due("the bytes in their order", x.text(), 0);
        x.feed('l' << 24 | 'o' << 16 | 's' << 8 | 'e', ' ' << 24 | '1' << 16 | ';' << 8 | ' ',
            'l' << 24 | 'o' << 16 | 's' << 8 | 'e', ' ' << 24 | '2' << 16 | ';' << 8 | ' ',
            'd' << 24 | 'a' << 16 | 'y' << 8 | '!');
        check.due("a foreign sign", x.text(), -1);
        check.due("its place", x.fault(1), 19);
    }

    private static void texts() {
        LeftGlove x = new LeftGlove();
        check.due("ahead of any, 0", x.fault(0), -1);
        check.due("ahead of any, 1", x.fault(1), -1);
        check.due("an empty text", x.text(), 0);
        check.due("no fault", x.fault(0), 0);
        check.due("no place", x.fault(1), -1);
        check.due("fault(2)", x.fault(2), -1);
        check.due("fault(-1)", x.fault(-1), -1);
        check.due("blanks alone", Check.text(x, " \n \n"), 1);
        check.due("a fault", Check.text(x, "one"), -1);
        check.due("the tape is empty behind a fault", x.about(8), 0);
        check.due("it counts for none", x.about(1), 2);
        check.due("a third", Check.text(x, "chill\n1+2 ;fine  3;"), 2);
        check.due("a fourth", Check.text(x, "pawn 1;"), 3);
        check.due("the tape is empty behind a text", x.about(8), 0);
        check.due("a fifth", Check.text(x, "oops"), -1);
        check.due("the tape stays", x.about(8), 4);
        check.due("it wasn't read", x.fault(0), 0);
        check.due("four are four", x.about(1), 4);
    }

    private static void fault(String text, int why, int place) {
        LeftGlove x = new LeftGlove();
        check.due("text() of " + text, Check.text(x, text), why == 0 ? 0 : -1);
        check.due("fault(0) of " + text, x.fault(0), why);
        check.due("fault(1) of " + text, x.fault(1), place);
    }

    private static void whole(String text) {
        fault(text, 0, -1);
    }

    private static void faults() {
        whole("one4coins30;owe0to1work1leather0mark0;");
        whole("chill if not not 1<=2 or 3#4 and 5>=6 then -1 else --2 end;");
        whole("chill day+frost+who+hand+coins+cold+rights+bare;");
        whole("fine day+frost+who+hand+coins+cold+rights+bare;");
        whole("grows day+frost+work+leather+size+mark+from+by;");
        whole("pawn day+frost+work+leather+size+mark+from+by;");
        whole("chill common 1 with common 2 with 3;");
        whole("do 11 hours 9;pass 11 to 6;lose 11;pledge 11;redeem 11;day 60;one 9 coins 9999;");
        fault("Chill 1;", 1, 0);
        fault("chills 1;", 1, 0);
        fault("chil 1;", 1, 0);
        fault("chillA 1;", 1, 0);
        fault("chillZ 1;", 1, 0);
        fault("chill@1;", 1, 5);
        fault("chill[1;", 1, 5);
        fault("chill`1;", 1, 5);
        fault("chill{1;", 1, 5);
        fault("chill 1:", 1, 7);
        fault("chill a;", 1, 6);
        fault("chill z;", 1, 6);
        fault("\t", 1, 0);
        fault(" ;", 1, 1);
        fault("chill 1\r;", 1, 7);
        fault("chill \u00e9;", 1, 6);
        fault("chill 1", 1, 7);
        fault("chill 1 \n", 1, 9);
        fault("chill", 1, 5);
        fault("chill 1 2 !", 1, 8);
        fault("chill < =", 1, 6);
        fault("chill if 1< =2 then 1 else 2 end;", 1, 12);
        fault("chill if (1<2) then 1 else 2 end;", 1, 11);
        fault("chill if 1<2<3 then 1 else 2 end;", 1, 12);
        fault("chill if 1<2 then 1 end;", 1, 20);
        fault("chill if 1<2 then 1 else 2;", 1, 26);
        fault("chill not 1;", 1, 6);
        fault("chill +1;", 1, 6);
        fault("chill 1**2;", 1, 8);
        fault("chill common 2 3;", 1, 15);
        fault("chill common 2 with;", 1, 19);
        fault("chill to;", 1, 6);
        fault("chill end;", 1, 6);
        fault("find 0;", 1, 0);
        fault("one 1 work 2;", 1, 6);
        fault("one x coins 2;", 1, 4);
        fault("day -1;", 1, 4);
        fault("lose 1 1;", 1, 7);
        fault("chill work;", 5, 6);
        fault("fine 1+by;", 5, 7);
        fault("grows who;", 5, 6);
        fault("pawn -(bare);", 5, 7);
        fault("chill 1 work;", 1, 8);
        fault("chill 1;chill", 4, 8);
        fault("fine 1;lose 0;fine;", 4, 14);
        fault("grows 1;grows 1;", 4, 8);
        fault("pawn 1;pawn 1;", 4, 7);
    }

    private static void faultsOfNumbers() {
        whole("chill 9999+0009999;");
        fault("chill 10000;", 2, 6);
        fault("chill 99999999999999999999999;", 2, 6);
        fault("chill 1 10000;", 1, 8);
        fault("one 0 coins 1;", 2, 4);
        fault("one 10 coins 1;", 2, 4);
        fault("one 1 coins 10000;", 2, 12);
        fault("owe 7 to 0 work 1 leather 0 mark 0;", 2, 4);
        fault("owe 0 to 7 work 1 leather 0 mark 0;", 2, 9);
        fault("owe 0 to 1 work 0 leather 0 mark 0;", 2, 16);
        fault("owe 0 to 1 work 100 leather 0 mark 0;", 2, 16);
        fault("owe 0 to 1 work 1 leather 3 mark 0;", 2, 26);
        fault("owe 0 to 1 work 1 leather 0 mark 10;", 2, 33);
        whole("owe 6 to 6 work 99 leather 2 mark 9;");
        whole("owe 0 to 0 work 1 leather 0 mark 0;do 0 hours 1;pass 0 to 0;lose 0;pledge 0;redeem 0;day 1;");
        whole("one 1 coins 0;");
        fault("do 12 hours 1;", 2, 3);
        fault("do 0 hours 0;", 2, 11);
        fault("do 0 hours 10;", 2, 11);
        fault("pass 12 to 1;", 2, 5);
        fault("pass 1 to 7;", 2, 10);
        fault("lose 12;", 2, 5);
        fault("pledge 12;", 2, 7);
        fault("redeem 12;", 2, 7);
        fault("day 0;", 2, 4);
        fault("day 61;", 2, 4);
    }

    private static void faultsOfOpenings() {
        whole("chill ((((((((1))))))))+((((((((1))))))));");
        fault("chill (((((((((1)))))))));", 3, 14);
        whole("chill --------1;");
        fault("chill ---------1;", 3, 14);
        whole("chill lefts lefts lefts lefts lefts lefts lefts lefts 1;");
        fault("chill -(-(-(-((1;", 3, 14);
        whole("chill if not not not not not not not 1<2 then 1 else 2 end;");
        fault("chill if not not not not not not not not 1<2 then 1 else 2 end;", 3, 37);
        // common is open till its second is whole, not behind that
        fault("chill ((((((( common (1) with 2 )))))));", 3, 21);
        fault("chill ((((((( common 1 with (2) )))))));", 3, 28);
        whole("chill (((((((common 1 with 2+(3))))))));");
        whole("chill (((((( common (1) with (2) ))))));");
        whole("chill if 1<2 then (((((((1))))))) else (((((((1))))))) end;");
        fault("chill if 1<2 then 1 else ((((((((1)))))))) end;", 3, 32);
        // what can't stand there can't stand there, however deep
        fault("chill ((((((((not 1;", 1, 14);
    }

    private static void faultsOfClauses() {
        String lost = "lose 0;".repeat(24);
        whole(lost);
        fault(lost + "lose 0;", 6, 168);
        fault(lost + " \nday", 6, 170);
        fault(lost + "!", 1, 168);
        fault(lost + "with", 1, 168);
        fault("chill 1;" + "lose 0;".repeat(23) + "chill 1;", 4, 169);
        fault("chill 1;" + "lose 0;".repeat(23) + "fine 1;", 6, 169);
    }

    private static void ruling() {
        LeftGlove x = Check.people(5, 10);
        check.due("by(0) without texts", x.by(0), false);
        check.due("by(NONE) without texts", x.by(-1), true);
        Check.text(x, "chill 3;");
        Check.text(x, "chill 4;");
        check.due("telling a text isn't ruling", x.of(0, 5), 0);
        check.due("by(2)", x.by(2), false);
        check.due("by(-2)", x.by(-2), false);
        check.due("by(1)", x.by(1), true);
        check.due("the law of 1", x.of(0, 5), 4);
        check.due("by(0)", x.by(0), true);
        check.due("the law of 0", x.of(0, 5), 3);
        check.due("by(9)", x.by(9), false);
        check.due("it stays", x.about(2), 0);
        check.due("by(NONE)", x.by(-1), true);
        check.due("no law", x.of(0, 5), 0);
    }

    private static void about() {
        LeftGlove x = Check.people(5, 10, 6, 10, 7, 10);
        x.bargain(0, 1, 1, 0, 0);
        x.bargain(0, 1, 1, 0, 0);
        Check.text(x, "");
        Check.text(x, "");
        x.by(1);
        x.test(1);
        x.claim(1);
        x.claim(2);
        x.chest(1, 1);
        x.chest(1, 1);
        x.chest(1, 1);
        x.grown(0, 1);
        x.grown(0, 1);
        x.grown(0, 1);
        x.grown(0, 1);
        x.feed(0, 0, 0, 0, 0);
        int[] due = {3, 2, 1, 2, 1, 2, 3, 4, 20};
        for (int what = 0; what < due.length; what++) {
            check.due("about(" + what + ")", x.about(what), due[what]);
        }
        check.due("about(9)", x.about(9), -2);
        check.due("about(-1)", x.about(-1), -2);
    }
}
