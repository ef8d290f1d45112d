/** Objects in the states that boundaries are asked in; each call makes a new one, always alike. */
final class Scenes {
    static final int[] FAR = {Integer.MIN_VALUE, Integer.MIN_VALUE + 1, -1000000, 1000000, Integer.MAX_VALUE - 1,
        Integer.MAX_VALUE};

    private static final String DAYS = "day 60;".repeat(24);

    private Scenes() {
    }

    /** Gloves 0 owed, 1 done, 2 lost, 3 pawned and 4 owed (its pawn is 0); something of all else, too. */
    static LeftGlove lively() {
        LeftGlove x = Check.people(5, 20, 7, 3, 6, 0, 5, 50);
        x.bargain(0, 1, 9, 2, 3);
        x.bargain(1, 2, 4, 2, 1);
        x.bargain(2, 0, 8, 0, 0);
        x.bargain(0, 2, 6, 2, 4);
        x.bargain(1, 0, 1, 1, 9);
        x.work(1, 4);
        x.lose(2);
        x.pledge(3);
        Check.text(x, "chill frost+1;fine rights*2;grows leather;pass 0 to 3;");
        Check.text(x, "one 3 coins 4;day 2;lose 4;");
        x.by(0);
        x.image();
        x.price(0, 2);
        x.test(3);
        x.test(5);
        x.claim(100);
        x.claim(300);
        x.chest(6, 1);
        x.chest(5, 0);
        x.grown(0, 2);
        x.day(2);
        Check.text(x, "day 0;");
        Check.tape(x, "grows 3;");
        return x;
    }

    static LeftGlove three() {
        return Check.people(5, 20, 7, 3, 6, 0);
    }

    static LeftGlove sevenPeople() {
        return Check.people(1, 0, 2, 10, 3, 20, 4, 30, 5, 40, 6, 50, 7, 60);
    }

    static LeftGlove twelveGloves() {
        LeftGlove x = three();
        for (int glove = 0; glove < 12; glove++) {
            x.bargain(glove % 3, (glove + 1) % 3, 10 + glove, glove % 3, glove % 10);
        }
        return x;
    }

    static LeftGlove fourTexts() {
        LeftGlove x = three();
        x.bargain(0, 1, 9, 0, 0);
        Check.text(x, "chill 1;");
        Check.text(x, "chill 2;");
        Check.text(x, "chill 3;");
        Check.text(x, "chill 4;");
        Check.tape(x, "chill !");
        return x;
    }

    /** Two people, one duty that grows no more, and so many days from 0 on: by texts, for few calls. */
    static LeftGlove onDay(int day) {
        LeftGlove x = Check.people(5, 9999, 6, 0);
        Check.text(x, DAYS);
        Check.text(x, "chill 0;fine 0;");
        x.by(1);
        for (int i = 0; i < day / 1440; i++) {
            x.played(0);
        }
        for (int rest = day % 1440; rest > 0; rest -= 60) {
            x.day(Math.min(rest, 60));
        }
        x.bargain(0, 1, 99, 0, 0);
        x.by(-1);
        return x;
    }

    static LeftGlove claiming(int... claims) {
        LeftGlove x = new LeftGlove();
        for (int claim : claims) {
            x.claim(claim);
        }
        return x;
    }

    /** A chest of sizes and slacks, two by two, beside these hands. */
    static LeftGlove chest(int[] hands, int... lefts) {
        LeftGlove x = new LeftGlove();
        for (int hand : hands) {
            x.one(hand, 0);
        }
        for (int i = 0; i < lefts.length; i += 2) {
            x.chest(lefts[i], lefts[i + 1]);
        }
        return x;
    }
}
