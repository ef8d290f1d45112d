/** What laws amount to: promises 5 and 7 (the language), asked by 19 and 20. */
public final class LawTest {
    private static final Check check = new Check();

    public static void main(String[] args) {
        sums();
        bounds();
        common();
        lefts();
        choices();
        deepest();
        namesOfPeople();
        namesOfGloves();
        limits();
        withoutLaws();
        check.close("LawTest");
    }

    /** What a SUM is worth in pawn (0 .. 99), with work 40, leather 2, size 5, mark 7, from 1, by 0. */
    private static void pawn(String sum, int due) {
        LeftGlove x = Check.people(4, 10, 5, 20, 6, 30);
        x.bargain(1, 0, 40, 2, 7);
        check.due("text of " + sum, Check.text(x, "pawn " + sum + ";"), 0);
        x.by(0);
        check.due("pawn " + sum, x.ofGlove(0, 8), due);
    }

    private static void sums() {
        pawn("2+3*4", 14);
        pawn("(2+3)*4", 20);
        pawn("10-3-2", 5);
        pawn("10-(3-2)", 9);
        pawn("40/4/5", 2);
        pawn("7/2", 3);
        pawn("10+-7/2", 7);
        pawn("10-7/-2", 13);
        pawn("10+(-7)/2", 7);
        pawn("2*3/4*5", 5);
        pawn("5/0+8", 8);
        pawn("0/0", 0);
        pawn("--5", 5);
        pawn("3--5", 8);
        pawn("-5+9", 4);
        pawn("3*-2+10", 4);
        pawn("007", 7);
    }

    private static void bounds() {
        // a million at most at each step: 1000000 / 9999 is 100, and 100 * 9999 is 999900
        pawn("9999*9999/9999-50", 50);
        pawn("9999*9999/9999*9999-9999*99-9999+50", 50);
        // a million less at least at each step
        pawn("0-9999*9999/9999*9999+9999*99+9999+50", 50);
        pawn("(9999*9999+9999*9999)/9999-50", 50);
        pawn("(0-9999*9999-9999*9999)/9999+150", 50);
        pawn("9999*9999*(0-9999)/9999+150", 50);
    }

    private static void common() {
        pawn("common 12 with 18", 6);
        pawn("common 12 with 18+1", 7);
        pawn("common 0 with 18", 18);
        pawn("common 18 with 0", 18);
        pawn("common 0 with 0", 0);
        pawn("common -12 with 18", 6);
        pawn("common -12 with -18", 6);
        pawn("common 0 with -9", 9);
        pawn("common 7 with 9", 1);
        pawn("common common 24 with 36 with 8", 4);
        pawn("common 24 with common 36 with 8", 4);
        pawn("2*common 24 with 36*2", 48);
    }

    private static void lefts() {
        LeftGlove x = Check.people(4, 10, 5, 20, 6, 30);
        x.bargain(1, 0, 4, 0, 0);
        x.bargain(2, 0, 4, 0, 0);
        x.bargain(2, 1, 4, 0, 0);
        Check.text(x, "chill lefts 0;fine lefts 1+lefts 2*10;grows lefts 3;pawn lefts(-1)+lefts by;");
        x.by(0);
        check.due("lefts 0", x.of(2, 5), 2);
        check.due("lefts 1 and 2", x.of(2, 6), 1);
        check.due("lefts of nobody", x.ofGlove(0, 7), 0);
        check.due("lefts by", x.ofGlove(2, 8), 1);
        x.pledge(0);
        check.due("a pawned one is no left", x.of(2, 5), 1);
        x.lose(1);
        check.due("nor is a lost one", x.of(2, 5), 0);
        x.work(2, 9);
        check.due("nor is a done one", x.of(2, 6), 0);
    }

    private static void choices() {
        pawn("if 1<2 then 3 else 4 end", 3);
        pawn("if 2<2 then 3 else 4 end", 4);
        pawn("if 2<=2 then 3 else 4 end", 3);
        pawn("if 3<=2 then 3 else 4 end", 4);
        pawn("if 2>2 then 3 else 4 end", 4);
        pawn("if 3>2 then 3 else 4 end", 3);
        pawn("if 2>=2 then 3 else 4 end", 3);
        pawn("if 1>=2 then 3 else 4 end", 4);
        pawn("if 2=2 then 3 else 4 end", 3);
        pawn("if 1=2 then 3 else 4 end", 4);
        pawn("if 1#2 then 3 else 4 end", 3);
        pawn("if 2#2 then 3 else 4 end", 4);
        pawn("if not 2#2 then 3 else 4 end", 3);
        pawn("if not not 2#2 then 3 else 4 end", 4);
        pawn("if 1=1 or 1=2 and 1=2 then 3 else 4 end", 3);
        pawn("if 1=2 and 1=2 or 1=1 then 3 else 4 end", 3);
        pawn("if not 1=2 and 1=1 then 3 else 4 end", 3);
        pawn("if not 1=1 or 1=1 then 3 else 4 end", 3);
        pawn("if 1=2 or 1=2 then 3 else 4 end", 4);
        pawn("if 1=1 and 1=2 then 3 else 4 end", 4);
        pawn("10+if 1=1 then 3 else 4 end*2", 16);
        pawn("if if 1=1 then 2 else 3 end=2 then 5+6 else 7 end+1", 12);
        pawn("if 1=2 then 1 else if 1=2 then 2 else if 1=1 then 3 else 4 end end end", 3);
        pawn("if 1=1 then if 1=2 then 1 else 2 end else 3 end", 2);
        pawn("if 1+1=4-2 then 3 else 4 end", 3);
    }

    /** As many numbers wait for one another as a text can make wait. */
    private static void deepest() {
        pawn("1+1*" + "if1=2or1=1and1<1+1*".repeat(8) + "1" + "then1else0end ".repeat(8) + "+40", 42);
        pawn("1+1*" + "if1=2or1=1and2<1+1*".repeat(8) + "1" + "then1else0end ".repeat(8) + "+40", 41);
        pawn("1+1*(1+1*(1+1*(1+1*(1+1*(1+1*(1+1*(1+1*(7))))))))", 15);
        pawn("common 8 with common 8 with common 8 with common 8 with common 8 with common 8 with common 8 with "
            + "common 8 with 4", 4);
    }

    private static void namesOfPeople() {
        LeftGlove x = Check.people(4, 10, 5, 0, 6, 30);
        Check.text(x, "fine who*10+hand;chill coins+1;");
        Check.text(x, "fine rights*10+bare;chill frost*10+day;");
        Check.text(x, "fine cold;chill 7;");
        x.by(0);
        check.due("who and hand", x.of(2, 6), 26);
        check.due("coins", x.of(2, 5), 31);
        x.by(1);
        check.due("no rights, two bare", x.of(2, 6), 2);
        x.bargain(2, 0, 9, 0, 0);
        check.due("one right, one bare", x.of(2, 6), 11);
        check.due("one left, one bare", x.of(0, 6), 1);
        x.bargain(2, 1, 9, 0, 0);
        x.bargain(2, 1, 9, 0, 0);
        check.due("three rights, none bare", x.of(2, 6), 30);
        check.due("two lefts, none bare", x.of(1, 6), 0);
        x.pledge(0);
        check.due("a pawned one is a right yet", x.of(2, 6), 30);
        check.due("but no left", x.of(0, 6), 2);
        x.lose(1);
        check.due("a lost one is no right", x.of(2, 6), 20);
        x.day(1);
        check.due("frost 9, day 1", x.of(0, 5), 91);
        x.by(2);
        check.due("cold", x.of(0, 6), 0);
        x.day(1);
        check.due("cold is more", x.of(0, 6), 7);
    }

    private static void namesOfGloves() {
        pawn("work", 40);
        pawn("leather", 2);
        pawn("size", 5);
        pawn("mark", 7);
        pawn("from", 1);
        pawn("by", 0);
        pawn("day+3", 3);
        pawn("frost+4", 4);
        LeftGlove x = Check.people(4, 10, 5, 20, 6, 30);
        x.bargain(1, 0, 40, 2, 7);
        Check.text(x, "grows work/10+leather;");
        x.by(0);
        check.due("grows by its own names", x.ofGlove(0, 7), 6);
        x.pass(0, 2);
        Check.text(x, "grows by;");
        x.by(1);
        check.due("by is who holds it now", x.ofGlove(0, 7), 2);
    }

    private static void limits() {
        LeftGlove x = Check.people(4, 10, 5, 20);
        x.bargain(1, 0, 40, 2, 7);
        Check.text(x, "chill 100;fine 100;grows 10;pawn 100;");
        Check.text(x, "chill 0-1;fine -1;grows -1;pawn -1;");
        Check.text(x, "chill 9999*9999-9999*99-9999;pawn 9999*9999-9999*99-9999-1;");
        Check.text(x, "chill 0-9999*9999+9999*99+9999+8;pawn(-9999)*9999+9999*99+9999+112;");
        x.by(0);
        check.due("chill 99 at most", x.of(0, 5), 99);
        check.due("fine 99 at most", x.of(0, 6), 99);
        check.due("grows 9 at most", x.ofGlove(0, 7), 9);
        check.due("pawn 99 at most", x.ofGlove(0, 8), 99);
        x.by(1);
        check.due("chill 0 at least", x.of(0, 5), 0);
        check.due("fine 0 at least", x.of(0, 6), 0);
        check.due("grows 0 at least", x.ofGlove(0, 7), 0);
        check.due("pawn 0 at least", x.ofGlove(0, 8), 0);
        // 1000000 - 989901 = 10099; 10099 - 9999 = 100, at most 99; one less is 99
        x.by(2);
        check.due("above a million", x.of(0, 5), 99);
        check.due("above a million, less one", x.ofGlove(0, 8), 99);
        // -1000000 + 989901 + 9999 + 8 = -92, 0 at least; with 112: 12
        x.by(3);
        check.due("below a million less", x.of(0, 5), 0);
        check.due("below a million less, and more", x.ofGlove(0, 8), 12);
    }

    private static void withoutLaws() {
        LeftGlove x = Check.people(4, 10, 5, 20, 6, 0);
        x.bargain(1, 0, 41, 2, 7);
        x.bargain(1, 0, 1, 2, 7);
        x.day(1);
        Check.text(x, "fine 50;");
        Check.text(x, "chill 50;");
        for (int text = -1; text <= 0; text++) {
            x.by(text);
            check.due("chill: frost times bare, none bare", x.of(0, 5), 0);
            check.due("chill: frost times bare, two bare", x.of(2, 5), 18);
            check.due("grows 1", x.ofGlove(0, 7), 1);
            check.due("pawn: work by 2, cut", x.ofGlove(0, 8), 20);
            check.due("pawn of 1", x.ofGlove(1, 8), 0);
        }
        check.due("fine by its law", x.of(1, 6), 50);
        x.by(1);
        check.due("fine: rights", x.of(1, 6), 2);
        check.due("fine: rights of nobody", x.of(0, 6), 0);
        check.due("chill by its law", x.of(0, 5), 50);
    }
}
