/**
 * What an object shows: first by calls that change nothing, then by reading its tape, by its texts,
 * by taking back, by a winter and by going back. The object is used up behind it. Two objects that
 * were made alike show the same, so a call between that changed anything is found out.
 */
final class Shown {
    private static final int STEPS_BACK = 3;

    private final LeftGlove x;
    private final StringBuilder shown = new StringBuilder();

    private Shown(LeftGlove x) {
        this.x = x;
    }

    static String of(LeftGlove x) {
        Shown all = new Shown(x);
        all.now();
        all.tape();
        all.texts();
        all.stepsBack();
        all.image();
        return all.shown.toString();
    }

    private void put(String name, long answer) {
        shown.append(name).append('=').append(answer).append(' ');
    }

    private void now() {
        abouts();
        people();
        gloves();
        book();
        told();
        put("pairs", x.pairs());
        put("ring", x.ring());
        put("richest", x.richest());
        put("coldest", x.coldest());
        put("free", x.free());
        put("whoseLaw", x.whoseLaw());
        shown.append('\n');
    }

    private void abouts() {
        for (int what = 0; what <= 8; what++) {
            put("about" + what, x.about(what));
        }
        for (int what = 0; what <= 3; what++) {
            put("is" + what, x.is(what));
        }
        put("fault0", x.fault(0));
        put("fault1", x.fault(1));
    }

    private void people() {
        for (int one = 0; one < x.about(0); one++) {
            for (int what = 0; what <= 7; what++) {
                put("of" + one + "," + what, x.of(one, what));
            }
            put("order" + one, x.order(one, -1));
            put("foretold" + one, x.foretold(60, one, 1));
        }
    }

    private void gloves() {
        for (int glove = 0; glove < x.is(3); glove++) {
            for (int what = 0; what <= 8; what++) {
                put("ofGlove" + glove + "," + what, x.ofGlove(glove, what));
            }
        }
    }

    private void book() {
        int many = x.book(-1, 0);
        put("book", many);
        put("fined", x.fined(-1));
        for (int i = 0; i < many; i += many > 6 ? many - 1 : 1) {
            for (int what = 0; what <= 2; what++) {
                put("book" + i + "," + what, x.book(i, what));
            }
        }
    }

    private void told() {
        put("tries", x.tries((1 << x.about(0)) - 1, false));
        put("first", x.tries((1 << x.about(0)) - 1, true));
        for (int k = 0; k < x.about(5); k++) {
            put("estate" + k, x.estate(200, k, false));
            put("lower" + k, x.estate(200, k, true));
        }
        for (int k = -1; k < x.about(6); k++) {
            put("lives" + k, x.lives(k));
        }
    }

    private void tape() {
        put("text", x.text());
        put("fault0", x.fault(0));
        put("fault1", x.fault(1));
        put("rest", x.about(8));
        put("whoseLaw", x.whoseLaw());
    }

    private void texts() {
        int ruling = x.about(2);
        for (int text = 0; text < x.about(1); text++) {
            x.by(text);
            put("chill by " + text, x.of(0, 5));
            put("fine by " + text, x.of(0, 6));
            put("grows by " + text, x.ofGlove(0, 7));
            put("pawn by " + text, x.ofGlove(0, 8));
            put("played " + text, x.played(text));
            put("X", x.is(2));
        }
        x.by(ruling);
    }

    private void stepsBack() {
        for (int i = 0; i < STEPS_BACK; i++) {
            put("undo", x.undo());
            put("DAY", x.is(0));
            put("X", x.is(2));
            put("COINS", x.of(0, 1));
        }
        put("winters", x.winters(5, 10));
        put("X", x.is(2));
    }

    private void image() {
        put("\nback", x.back());
        abouts();
        for (int one = 0; one < x.about(0); one++) {
            put("COINS" + one, x.of(one, 1));
        }
        for (int glove = 0; glove < x.is(3); glove++) {
            put("how" + glove, x.ofGlove(glove, 6));
        }
        put("undo", x.undo());
        put("back again", x.back());
    }
}
