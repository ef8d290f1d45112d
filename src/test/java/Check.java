import java.nio.charset.StandardCharsets;
import java.util.function.Supplier;

/** Counts answers that aren't as due, and tells texts to a LeftGlove. */
final class Check {
    interface Call {
        long on(LeftGlove x);
    }

    interface Deed {
        boolean on(LeftGlove x);
    }

    private int wrong;
    private int asked;

    void due(String call, long got, long want) {
        asked++;
        if (got != want) {
            wrong++;
            System.out.println(call + " answered " + got + ", due is " + want);
        }
    }

    void due(String call, boolean got, boolean want) {
        due(call, got ? 1 : 0, want ? 1 : 0);
    }

    void same(String name, String got, String want) {
        asked++;
        if (!got.equals(want)) {
            wrong++;
            System.out.println(name + " shows\n" + got + "\ndue is\n" + want);
        }
    }

    /** What the call answers; and all that is shown behind it is as it is without the call. */
    void idle(String name, Supplier<LeftGlove> made, Call call, long due) {
        LeftGlove x = made.get();
        due(name, call.on(x), due);
        same(name + " changes something:", Shown.of(x), Shown.of(made.get()));
    }

    /** A deed that is answered by false, and changes nothing. */
    void isRefused(String name, Supplier<LeftGlove> made, Deed deed) {
        idle(name, made, x -> deed.on(x) ? 1 : 0, 0);
    }

    void close(String name) {
        System.out.println(name + ": " + asked + " answers, " + wrong + " not as due");
        if (wrong != 0) {
            System.exit(1);
        }
    }

    /** The tape has just these signs then. */
    static void tape(LeftGlove x, String text) {
        x.end(0);
        byte[] bytes = text.getBytes(StandardCharsets.ISO_8859_1);
        for (int i = 0; i < bytes.length; i += 20) {
            x.feed(word(bytes, i), word(bytes, i + 4), word(bytes, i + 8), word(bytes, i + 12), word(bytes, i + 16));
        }
        x.end(bytes.length);
    }

    static int text(LeftGlove x, String text) {
        tape(x, text);
        return x.text();
    }

    static int word(byte[] bytes, int from) {
        int word = 0;
        for (int i = from; i < from + 4; i++) {
            word = word << 8 | (i < bytes.length ? bytes[i] & 255 : 0);
        }
        return word;
    }

    /** A new object with people of these hands and coins. */
    static LeftGlove people(int... handsAndCoins) {
        LeftGlove x = new LeftGlove();
        for (int i = 0; i < handsAndCoins.length; i += 2) {
            x.one(handsAndCoins[i], handsAndCoins[i + 1]);
        }
        return x;
    }
}
