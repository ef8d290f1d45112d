/** The boundaries of part II: tokens, numbers, clauses, the six FAULTS and their places, what laws amount to. */
public final class BoundsTextsTest {
    private static final Check check = new Check();

    public static void main(String[] args) {
        everyByteAlone();
        everyByteBehindAWord();
        blanksPartTokens();
        theLongestToken();
        wordsOfOtherLetters();
        numbersOfSums();
        numbersOfClauses();
        fault1AtTheEnd();
        fault1OfSums();
        fault1OfClauses();
        fault3TheNinth();
        fault3Around();
        fault3Closed();
        fault4SecondLaw();
        fault5Names();
        fault6Clauses();
        theFirstFault();
        ofOneTheLeast();
        millions();
        divisions();
        commonNumbers();
        leftsOfNobody();
        bareHands();
        namesAtTheirEnds();
        chosenSums();
        lawsAtTheirEnds();
        lawsThatAreNotTold();
        check.close("BoundsTextsTest");
    }

    private static void fault(String text, int why, int place) {
        LeftGlove x = new LeftGlove();
        String shown = text.replace("\n", "\\n");
        check.due("text() of " + shown, Check.text(x, text), why == 0 ? 0 : -1);
        check.due("fault(0) of " + shown, x.fault(0), why);
        check.due("fault(1) of " + shown, x.fault(1), place);
    }

    private static void whole(String text) {
        fault(text, 0, -1);
    }

    private static void everyByteAlone() {
        for (int sign = 0; sign < 256; sign++) {
            if (sign == 32 || sign == 10) {
                whole("" + (char) sign);
            } else {
                fault("" + (char) sign, 1, 0);
            }
        }
    }

    private static void everyByteBehindAWord() {
        for (int sign = 0; sign < 256; sign++) {
            boolean isLetter = sign >= 'a' && sign <= 'z' || sign >= 'A' && sign <= 'Z';
            boolean isDigit = sign >= '0' && sign <= '9';
            String text = "chill" + (char) sign + "1;";
            if (sign == 32 || sign == 10 || isDigit || sign == '-') {
                whole(text);
            } else if (sign == '(') {
                fault(text, 1, 7);
            } else {
                fault(text, 1, isLetter ? 0 : 5);
            }
        }
    }

    private static void blanksPartTokens() {
        whole("\n chill \n 1 \n ; \n ");
        whole("chill1;fine2;");
        fault("chi ll 1;", 1, 0);
        fault("chill 1 1;", 1, 8);
        fault("chill 1\n1;", 1, 8);
        fault("chill 1\t;", 1, 7);
        fault("chill 1\r;", 1, 7);
        fault("chill 1\0;", 1, 7);
        fault("chill 1\u00a0;", 1, 7);
    }

    private static void theLongestToken() {
        whole("chill if 1<=2 then 1 else 2 end;");
        whole("chill if 1>=2 then 1 else 2 end;");
        fault("chill if 1< =2 then 1 else 2 end;", 1, 12);
        fault("chill if 1> =2 then 1 else 2 end;", 1, 12);
        fault("chill if 1==2 then 1 else 2 end;", 1, 11);
        fault("chill if 1=<2 then 1 else 2 end;", 1, 11);
        fault("chill if 1<>2 then 1 else 2 end;", 1, 11);
        fault("chill if 1<==2 then 1 else 2 end;", 1, 12);
        fault("chill if 1<", 1, 11);
        fault("chill if 1<=", 1, 12);
        fault("chill <=1;", 1, 6);
        fault("ifelse", 1, 0);
        fault("chill if 1<2 thenday else 1 end;", 1, 13);
        whole("chill if 1<2then 1else 2end;");
    }

    private static void wordsOfOtherLetters() {
        for (String word : new String[] {"Chill", "CHILL", "chilL", "chil", "chills", "achill", "x", "Z", "find", "told"}) {
            fault(word + " 1;", 1, 0);
        }
        fault("chill Day;", 1, 6);
        fault("chill days;", 1, 6);
        fault("chill da;", 1, 6);
        fault("one 1 Coins 1;", 1, 6);
        fault("chill if 1<2 Then 1 else 2 end;", 1, 13);
    }

    private static void numbersOfSums() {
        whole("chill 0;");
        whole("chill 9999;");
        whole("chill 00000000000000000000009999;");
        fault("chill 10000;", 2, 6);
        fault("chill 0010000;", 2, 6);
        fault("chill 1+4294967297;", 2, 8);
        fault("chill 18446744073709551617;", 2, 6);
        fault("chill " + "9".repeat(200) + ";", 2, 6);
        fault("chill -10000;", 2, 7);
        fault("chill if 10000<1 then 1 else 2 end;", 2, 9);
        fault("chill common 1 with 10000;", 2, 20);
    }

    /** A clause with its number in the place of ?: the least and the most that may be, then one beside each. */
    private static void number(String clause, int least, int most) {
        int place = clause.indexOf('?');
        whole(clause.replace("?", "" + least));
        whole(clause.replace("?", "" + most));
        whole(clause.replace("?", "000" + most));
        fault(clause.replace("?", "" + (most + 1)), 2, place);
        fault(clause.replace("?", "10000"), 2, place);
        fault(clause.replace("?", "4294967297"), 2, place);
        fault(clause.replace("?", "-1"), 1, place);
        fault(clause.replace("?", "x"), 1, place);
        fault(clause.replace("?", ""), 1, clause.charAt(place + 1) == ' ' ? place + 1 : place);
        if (least > 0) {
            fault(clause.replace("?", "" + (least - 1)), 2, place);
        }
    }

    private static void numbersOfClauses() {
        number("one ? coins 5;", 1, 9);
        number("one 5 coins ?;", 0, 9999);
        number("owe ? to 1 work 1 leather 1 mark 1;", 0, 6);
        number("owe 1 to ? work 1 leather 1 mark 1;", 0, 6);
        number("owe 1 to 1 work ? leather 1 mark 1;", 1, 99);
        number("owe 1 to 1 work 1 leather ? mark 1;", 0, 2);
        number("owe 1 to 1 work 1 leather 1 mark ?;", 0, 9);
        number("do ? hours 1;", 0, 11);
        number("do 1 hours ?;", 1, 9);
        number("pass ? to 1;", 0, 11);
        number("pass 1 to ?;", 0, 6);
        number("lose ?;", 0, 11);
        number("pledge ?;", 0, 11);
        number("redeem ?;", 0, 11);
        number("day ?;", 1, 60);
    }

    /** Wherever a text is cut behind a token, the end can't stand there, at the length. */
    private static void fault1AtTheEnd() {
        whole("");
        String law = "chill if not 1 < 2 or 3 = 4 and 5 # 6 then common 7 with lefts 8 else - ( 9 ) end ;";
        String deeds = "owe 1 to 2 work 3 leather 1 mark 5 ;";
        for (String text : new String[] {law, deeds}) {
            whole(text);
            for (int at = text.indexOf(' '); at >= 0; at = text.indexOf(' ', at + 1)) {
                fault(text.substring(0, at), 1, at);
                fault(text.substring(0, at) + " \n ", 1, at + 3);
            }
        }
    }

    private static void fault1OfSums() {
        String[] cannotStart = {";", ")", "*1", "/1", "+1", "#1", "<1", ">1", "=1", "<=1", ">=1", "not 1", "then", "else",
            "end", "with", "or", "and", "to", "hours", "one", "owe", "do", "pass", "lose", "pledge", "redeem", "chill",
            "fine", "grows", "pawn"};
        for (String start : cannotStart) {
            fault("grows " + start + ";", 1, 6);
            fault("grows 1+" + start + ";", 1, 8);
            fault("grows 1*" + start + ";", 1, 8);
            fault("grows (" + start + ";", 1, 7);
            fault("grows lefts " + start + ";", 1, 12);
        }
        for (String next : new String[] {"1", "day", "(1)", "common", "lefts", "if", "not", "then", ")", "<2", "=2", "with"}) {
            fault("grows 1 " + next + ";", 1, 8);
        }
        fault("grows (1;", 1, 8);
        fault("grows ();", 1, 7);
        fault("grows common 1;", 1, 14);
        fault("grows if 1 then 1 else 2 end;", 1, 11);
        fault("grows if (1<2) then 1 else 2 end;", 1, 11);
        for (String sign : new String[] {";", ")", "(", "1", "not", "with", "end", "else", "to"}) {
            fault("grows if 1 " + sign + " 2 then 1 else 2 end;", 1, 11);
            fault("grows if 1 < 2 " + sign + " 2 end;", 1, 15);
        }
        fault("grows if 1 < 2 then 2 end;", 1, 22);
        fault("grows if 1 < 2 or 2 end;", 1, 20);
        fault("grows if 1<2 or then 1 else 2 end;", 1, 16);
        fault("grows if 1<2 not 1<2 then 1 else 2 end;", 1, 13);
        fault("grows if 1<2<3 then 1 else 2 end;", 1, 12);
        fault("grows if 1<2 then 1 end;", 1, 20);
        fault("grows if 1<2 then 1 else 2;", 1, 26);
        fault("grows if 1<2 then 1 else 2 end end;", 1, 31);
    }

    private static void fault1OfClauses() {
        for (String start : new String[] {";", "1", "to", "coins", "work", "find", "frost", "by", "common", "if", "(", "-"}) {
            fault(start, 1, 0);
            fault("lose 1;" + start, 1, 7);
        }
        fault("lose 1,", 1, 6);
        fault("lose 1 lose 2;", 1, 7);
        fault("lose 1;;", 1, 7);
        fault("day 1+1;", 1, 5);
        fault("lose (1);", 1, 5);
        fault("one 5 5;", 1, 6);
        fault("pass 1 hours 1;", 1, 7);
        fault("do 1 to 1;", 1, 5);
        fault("owe 1 work 1 to 1 leather 1 mark 1;", 1, 6);
    }

    private static void fault3TheNinth() {
        String eight = "((((((((";
        String[] ninth = {"(1)", "-1", "common 1 with 1", "lefts 1", "if 1<2 then 1 else 2 end"};
        for (String one : ninth) {
            whole("chill " + eight.substring(1) + one + ")))))));");
            fault("chill " + eight + one + "))))))));", 3, 14);
        }
        whole("chill ((((((if not 1<2 then 1 else 2 end))))));");
        whole("chill (((((((if 1<2 then 1 else 2 end)))))));");
        fault("chill (((((((if not 1<2 then 1 else 2 end)))))));", 3, 16);
        fault("chill (((((((if 1<2 and not 1<2 then 1 else 2 end)))))));", 3, 24);
        whole("chill --------1;");
        fault("chill ---------1;", 3, 14);
        fault("chill 1---------1;", 0, -1);
        fault("chill 1----------1;", 3, 16);
    }

    /** Each kind counts where it is open around eight more; ? is where those are. */
    private static void fault3Around() {
        String[] around = {"(?)", "-?", "common ? with 1", "common 1 with ?", "lefts ?", "if ?<1 then 1 else 1 end",
            "if 1<? then 1 else 1 end", "if 1<2 then ? else 1 end", "if 1<2 then 1 else ? end"};
        for (String one : around) {
            String text = "chill " + one + ";";
            whole(text.replace("?", "(((((((1)))))))"));
            fault(text.replace("?", "((((((((1))))))))"), 3, text.indexOf('?') + 7);
        }
        String not = "chill if not ?<? then 1 else 1 end;";
        whole(not.replace("?", "((((((1))))))"));
        fault(not.replace("?", "(((((((1)))))))"), 3, not.indexOf('?') + 6);
        fault("chill if not 1<(((((((1))))))) then 1 else 1 end;", 3, 21);
        fault("chill if 1<2 or not not not not not not not not 1<2 then 1 else 1 end;", 3, 44);
        whole("chill if 1<2 or not not not not not not not 1<2 then 1 else 1 end;");
    }

    /** What is closed counts no more. */
    private static void fault3Closed() {
        String eight = "((((((((1))))))))";
        for (String one : new String[] {"(1)", "-1", "common 1 with 1", "lefts 1", "if not 1<2 then 1 else 1 end"}) {
            whole("chill " + one + "+" + eight + ";");
            whole("chill " + one + "*" + eight + ";");
        }
        whole("chill " + eight + "+" + eight + "*" + eight + ";fine " + eight + ";");
        whole("chill if not not not not not not not 1<2 or not not not not not not not 1<2 then 1 else 1 end;");
        whole("chill common ((((((( 1 ))))))) with ((((((( 1 ))))))) + " + eight + ";");
    }

    private static void fault4SecondLaw() {
        for (String law : new String[] {"chill", "fine", "grows", "pawn"}) {
            whole(law + " 1;");
            fault(law + " 1;" + law + " 1;", 4, law.length() + 3);
            fault(law + " 1;" + law, 4, law.length() + 3);
            fault(law + " 1;lose 0; " + law + " 1;", 4, law.length() + 11);
        }
        whole("chill 1;fine 1;grows 1;pawn 1;");
        whole("lose 0;lose 0;day 1;day 1;one 1 coins 1;one 1 coins 1;");
    }

    private static void fault5Names() {
        String[] ofPeople = {"who", "hand", "coins", "cold", "rights", "bare"};
        String[] ofGloves = {"work", "leather", "size", "mark", "from", "by"};
        for (String name : new String[] {"day", "frost"}) {
            whole("chill " + name + ";fine " + name + ";grows " + name + ";pawn " + name + ";");
        }
        for (String name : ofPeople) {
            whole("chill " + name + ";fine " + name + ";");
            fault("grows " + name + ";", 5, 6);
            fault("pawn 1+" + name + ";", 5, 7);
            fault("lose " + name + ";", 1, 5);
        }
        for (String name : ofGloves) {
            whole("grows " + name + ";pawn " + name + ";");
            fault("chill " + name + ";", 5, 6);
            fault("fine (" + name + ");", 5, 6);
            fault("day " + name + ";", 1, 4);
        }
        fault("chill 1;grows coins;", 5, 14);
        fault("grows 1;chill size;", 5, 14);
        whole("chill coins;one 1 coins 1;");
    }

    private static void fault6Clauses() {
        String most = "day 1;".repeat(24);
        whole(most);
        whole(most + " \n");
        fault(most + "day 1;", 6, 144);
        fault(most + " day 1;", 6, 145);
        fault(most + "day", 6, 144);
        fault(most + "day x", 6, 144);
        fault(most + "chill 1;", 6, 144);
        whole("chill 1;fine 1;grows 1;pawn 1;" + "day 1;".repeat(20));
        fault("chill 1;fine 1;grows 1;pawn 1;" + "day 1;".repeat(21), 6, 150);
        // a clause that isn't whole is none yet: its own FAULT comes first
        fault("day 1;".repeat(23) + "day 0;day 1;", 2, 142);
    }

    private static void theFirstFault() {
        fault("chill 10000;!", 2, 6);
        fault("!chill 10000;", 1, 0);
        fault("chill work+10000;", 5, 6);
        fault("chill 10000+work;", 2, 6);
        fault("chill 1;chill work;", 4, 8);
        fault("chill (((((((((10000;", 3, 14);
        fault("day 0;day 61;", 2, 4);
        fault("one 1 coins 10000", 2, 12);
    }

    private static void ofOneTheLeast() {
        fault("chill 1 10000;", 1, 8);
        fault("10000", 1, 0);
        fault("chill 1 work;", 1, 8);
        fault("chill ((((((((not 1;", 1, 14);
        fault("chill ((((((((1(1;", 1, 15);
        fault("chill 1 chill 1;", 1, 8);
        fault("chill 1;" + "day 1;".repeat(23) + "chill 1;", 4, 146);
        fault("day 1;".repeat(24) + "with", 1, 144);
        fault("day 1;".repeat(24) + "10000", 1, 144);
        fault("day 1;".repeat(24) + ";", 1, 144);
    }

    /** What a SUM is worth as pawn (0 .. 99): of work 40, leather 2, size 5, mark 7, from 1, by 0. */
    private static void pawn(String sum, int due) {
        LeftGlove x = Check.people(4, 10, 5, 20, 6, 30);
        x.bargain(1, 0, 40, 2, 7);
        check.due("text of " + sum, Check.text(x, "pawn " + sum + ";"), 0);
        x.by(0);
        check.due("pawn " + sum, x.ofGlove(0, 8), due);
    }

    private static void millions() {
        String million = "1000*1000";
        String isMillion = "if " + million + "=?then 1 else 0 end";
        pawn("if 1000*1000-1=999*1000+999 then 1 else 0 end", 1);
        pawn(isMillion.replace("?", "1001*1000 "), 1);
        pawn(isMillion.replace("?", "1000*1000+1 "), 1);
        pawn(isMillion.replace("?", "9999*9999 "), 1);
        pawn(isMillion.replace("?", "9999*9999*9999*9999 "), 1);
        pawn(isMillion.replace("?", "0-(-9999)*9999 "), 1);
        pawn("if 0-1000*1000=0-1001*1000 then 1 else 0 end", 1);
        pawn("if 0-1000*1000=0-1000*1000-1 then 1 else 0 end", 1);
        pawn("if 0-1000*1000=(-9999)*9999 then 1 else 0 end", 1);
        pawn("if 0-1000*1000<0-1000*999-999 then 1 else 0 end", 1);
        // at each step, not at the end
        pawn("1000*1000+9999-9999*100+9-9-99*1-1", 0);
        pawn("1000*1000+50-1000*1000", 0);
        pawn("50+1000*1000-1000*1000", 0);
        pawn("1000*1000-1000*1000+50", 50);
        pawn("0-1000*1000-50+1000*1000", 0);
        pawn("1000*1000*2/1000/100", 10);
        pawn("0-(0-1000*1000*2)/1000/100", 10);
        pawn("1000*1000/(1000*1000+1)", 1);
        pawn("common(1000*1000)with 75", 25);
        pawn("common(1000*1000+5)with 64", 64);
        pawn("common(-9999*9999)with 96", 32);
    }

    private static void divisions() {
        pawn("0/5+7", 7);
        pawn("5/0+7", 7);
        pawn("(-5)/0+7", 7);
        pawn("0/0+7", 7);
        pawn("7+5/(3-3)", 7);
        pawn("7/2", 3);
        pawn("10+(-7)/2", 7);
        pawn("10+7/(-2)", 7);
        pawn("10+(-7)/(-2)", 13);
        pawn("1/2+9", 9);
        pawn("(-1)/2+9", 9);
        pawn("9999/100", 99);
        pawn("100/2/5", 10);
        pawn("100/2*5-200", 50);
        pawn("100-50-30", 20);
    }

    private static void commonNumbers() {
        pawn("common 0 with 0", 0);
        pawn("common 0 with 9", 9);
        pawn("common 9 with 0", 9);
        pawn("common 0 with -9", 9);
        pawn("common -9 with 0", 9);
        pawn("common 1 with 9999", 1);
        pawn("common -12 with 18", 6);
        pawn("common 12 with -18", 6);
        pawn("common -12 with -18", 6);
        pawn("common 9 with 9", 9);
        pawn("common 9999 with 99", 99);
        // a ONE each: what is behind the second isn't of it
        pawn("common 4 with 6*10", 20);
        pawn("common 4 with(6*10)", 4);
    }

    private static void leftsOfNobody() {
        pawn("9+lefts 0", 10);
        pawn("9+lefts 1", 9);
        pawn("9+lefts 2", 9);
        pawn("9+lefts 3", 9);
        pawn("9+lefts 6", 9);
        pawn("9+lefts 7", 9);
        pawn("9+lefts 12", 9);
        pawn("9+lefts 9999", 9);
        pawn("9+lefts -1", 9);
        pawn("9+lefts(9999*9999)", 9);
        pawn("9+lefts(-9999*9999)", 9);
        // a glove that was taken back is no left
        LeftGlove x = Check.people(4, 10, 5, 20);
        x.bargain(1, 0, 40, 2, 7);
        x.bargain(1, 0, 40, 2, 7);
        Check.text(x, "fine lefts 0;");
        x.by(0);
        check.due("two lefts", x.of(0, 6), 2);
        x.undo();
        check.due("one is taken back", x.of(0, 6), 1);
        for (int i = 0; i < 11; i++) {
            x.bargain(1, 0, 1, 0, 0);
        }
        check.due("twelve lefts", x.of(0, 6), 12);
    }

    private static void bareHands() {
        LeftGlove x = Check.people(4, 0, 5, 0);
        Check.text(x, "fine bare;chill rights;");
        x.by(0);
        int[] bare = {2, 1, 0, 0};
        for (int many = 0; many < bare.length; many++) {
            check.due("bare beside rights " + many, x.of(1, 6), bare[many]);
            check.due("bare beside lefts " + many, x.of(0, 6), bare[many]);
            check.due("rights", x.of(1, 5), many);
            x.bargain(1, 0, 9, 0, 0);
        }
        LeftGlove y = Check.people(4, 0, 5, 0);
        Check.text(y, "fine bare;");
        y.by(0);
        y.bargain(0, 1, 9, 0, 0);
        y.bargain(1, 0, 9, 0, 0);
        check.due("a right and a left together", y.of(0, 6), 0);
        y.pledge(1);
        check.due("a pawned one is no left", y.of(0, 6), 1);
        check.due("but a right", y.of(1, 6), 0);
        y.lose(0);
        check.due("a lost one is neither", y.of(0, 6), 2);
        check.due("for either", y.of(1, 6), 1);
        LeftGlove z = Check.people(4, 0, 5, 0, 6, 0, 7, 0);
        Check.text(z, "fine bare;");
        z.by(0);
        for (int i = 0; i < 10; i++) {
            z.bargain(0, 1, 9, 0, 0);
        }
        z.bargain(2, 1, 9, 0, 0);
        check.due("the eleventh is a right", z.of(2, 6), 1);
        check.due("none is of the fourth", z.of(3, 6), 2);
        z.bargain(3, 2, 9, 0, 0);
        check.due("the twelfth is a right", z.of(3, 6), 1);
        check.due("and a left", z.of(2, 6), 0);
    }

    /** Each name at the least and at the most that it can be. */
    private static void namesAtTheirEnds() {
        LeftGlove x = Check.people(1, 0, 9, 9999, 5, 5, 5, 5, 5, 5, 5, 5, 5, 5);
        x.bargain(0, 6, 1, 0, 0);
        x.bargain(6, 0, 99, 2, 9);
        String[] ofPeople = {"who", "hand", "coins/101", "cold", "rights", "bare", "day", "frost"};
        int[][] people = {{0, 6}, {1, 5}, {0, 0}, {0, 0}, {1, 1}, {0, 0}, {0, 0}, {0, 0}};
        String[] ofGloves = {"work", "leather", "size", "mark", "from", "by", "day", "frost"};
        int[][] gloves = {{1, 99}, {0, 2}, {1, 5}, {0, 9}, {0, 6}, {6, 0}, {0, 0}, {0, 0}};
        for (int i = 0; i < 8; i++) {
            x.image();
            Check.text(x, "fine " + ofPeople[i] + ";pawn " + ofGloves[i] + ";");
            x.by(0);
            check.due(ofPeople[i] + " of 0", x.of(0, 6), people[i][0]);
            check.due(ofPeople[i] + " of 6", x.of(6, 6), people[i][1]);
            check.due(ofGloves[i] + " of glove 0", x.ofGlove(0, 8), gloves[i][0]);
            check.due(ofGloves[i] + " of glove 1", x.ofGlove(1, 8), gloves[i][1]);
            x.back();
        }
        Check.text(x, "fine coins-9900;chill hand;");
        x.by(0);
        check.due("coins of 9999", x.of(1, 6), 99);
        check.due("hand of 9", x.of(1, 5), 9);
        LeftGlove y = Scenes.onDay(9999);
        Check.text(y, "fine day-9900;chill frost*9+1;pawn day-9992;");
        y.by(2);
        check.due("day of 9999", y.of(0, 6), 99);
        check.due("frost", y.of(0, 5), y.is(1) * 9 + 1);
        check.due("day of 9999 for gloves", y.ofGlove(0, 8), 7);
        LeftGlove z = Check.people(5, 0);
        Check.text(z, "chill 99;fine cold-9900;");
        z.by(0);
        z.day(60);
        z.day(60);
        check.due("cold of 9999", z.of(0, 6), 99);
    }

    private static void chosenSums() {
        pawn("if 1<2 then 5 else 1/0 end", 5);
        pawn("if 2<1 then 1/0 else 5 end", 5);
        pawn("if 1<1 then 1 else 2 end", 2);
        pawn("if 1<=1 then 1 else 2 end", 1);
        pawn("if 2<=1 then 1 else 2 end", 2);
        pawn("if 1>1 then 1 else 2 end", 2);
        pawn("if 1>=1 then 1 else 2 end", 1);
        pawn("if 0>=1 then 1 else 2 end", 2);
        pawn("if 1=1 then 1 else 2 end", 1);
        pawn("if 1#1 then 1 else 2 end", 2);
        pawn("if -1<0 then 1 else 2 end", 1);
        pawn("10+if 1<2 then 3 else 4 end*2", 16);
        pawn("10+if 2<1 then 3 else 4 end*2", 18);
        pawn("10-if 1<2 then if 2<1 then 3 else 4 end else 5 end", 6);
        // or and and, with each side so and not so; and binds closer, not closest
        String[] sides = {"1=2", "1=1"};
        for (int a = 0; a < 2; a++) {
            for (int b = 0; b < 2; b++) {
                pawn("if " + sides[a] + " or " + sides[b] + " then 1 else 2 end", a == 1 || b == 1 ? 1 : 2);
                pawn("if " + sides[a] + " and " + sides[b] + " then 1 else 2 end", a == 1 && b == 1 ? 1 : 2);
                pawn("if not " + sides[a] + " or " + sides[b] + " then 1 else 2 end", a == 0 || b == 1 ? 1 : 2);
                pawn("if " + sides[a] + " or 1=1 and " + sides[b] + " then 1 else 2 end", a == 1 || b == 1 ? 1 : 2);
                pawn("if " + sides[a] + " and 1=2 or " + sides[b] + " then 1 else 2 end", b == 1 ? 1 : 2);
            }
        }
    }

    private static void law(String sum, int chill, int grows) {
        LeftGlove x = Check.people(4, 10, 5, 20);
        x.bargain(1, 0, 40, 2, 7);
        Check.text(x, "chill " + sum + ";fine " + sum + ";grows " + sum + ";pawn " + sum + ";");
        x.by(0);
        check.due("chill " + sum, x.of(0, 5), chill);
        check.due("fine " + sum, x.of(0, 6), chill);
        check.due("grows " + sum, x.ofGlove(0, 7), grows);
        check.due("pawn " + sum, x.ofGlove(0, 8), chill);
    }

    private static void lawsAtTheirEnds() {
        law("-9999*9999", 0, 0);
        law("-2", 0, 0);
        law("-1", 0, 0);
        law("0", 0, 0);
        law("1", 1, 1);
        law("8", 8, 8);
        law("9", 9, 9);
        law("10", 10, 9);
        law("98", 98, 9);
        law("99", 99, 9);
        law("100", 99, 9);
        law("9999*9999", 99, 9);
    }

    /** FROST times bare; RIGHTS; 1; WORK by 2, cut: each where its own law isn't told, though others are. */
    private static void lawsThatAreNotTold() {
        String[] laws = {"chill 77;", "fine 77;", "grows 7;", "pawn 77;"};
        for (int without = -1; without < 4; without++) {
            LeftGlove x = Check.people(4, 10, 5, 20, 6, 0);
            x.bargain(1, 0, 99, 2, 7);
            x.bargain(1, 0, 1, 2, 7);
            x.bargain(1, 0, 3, 2, 7);
            x.day(1);
            StringBuilder text = new StringBuilder();
            for (int law = 0; law < 4; law++) {
                text.append(law == without ? "" : laws[law]);
            }
            Check.text(x, text.toString());
            x.by(0);
            check.due("chill of " + text, x.of(2, 5), without == 0 ? 18 : 77);
            check.due("chill, no hand bare, of " + text, x.of(1, 5), without == 0 ? 0 : 77);
            check.due("fine of " + text, x.of(1, 6), without == 1 ? 3 : 77);
            check.due("fine, no rights, of " + text, x.of(0, 6), without == 1 ? 0 : 77);
            check.due("grows of " + text, x.ofGlove(0, 7), without == 2 ? 1 : 7);
            check.due("pawn of 99 of " + text, x.ofGlove(0, 8), without == 3 ? 49 : 77);
            check.due("pawn of 1 of " + text, x.ofGlove(1, 8), without == 3 ? 0 : 77);
            check.due("pawn of 3 of " + text, x.ofGlove(2, 8), without == 3 ? 1 : 77);
        }
    }
}
