import java.lang.management.ManagementFactory;

/** One room holds all calls of a run: calls make no objects, and a new object stays small. */
public final class RoomTest {
    private static final Check check = new Check();

    public static void main(String[] args) {
        com.sun.management.ThreadMXBean threads = (com.sun.management.ThreadMXBean) ManagementFactory.getThreadMXBean();
        long id = Thread.currentThread().getId();
        // The first run also loads classes and constants, which are no objects of the calls.
        LeftGlove x = new LeftGlove();
        feedText(x);
        calls(x);
        long start = threads.getThreadAllocatedBytes(id);
        LeftGlove y = new LeftGlove();
        long made = threads.getThreadAllocatedBytes(id) - start;
        check.due("an object takes " + made + " bytes", made < 80000, true);
        feedText(y);
        long ahead = threads.getThreadAllocatedBytes(id);
        calls(y);
        long used = threads.getThreadAllocatedBytes(id) - ahead;
        check.due("calls take " + used + " bytes", used < 500, true);
        check.due("the first is there yet", x.about(0), 7);
        check.close("RoomTest");
    }

    private static void feedText(LeftGlove x) {
        Check.tape(x, "chill common hand with 6+frost;fine rights*2+lefts who;grows if leather=2 then 0 else by+1 end;"
            + "pawn work+mark;owe 0 to 1 work 9 leather 1 mark 1;day 60;day 60;");
    }

    private static void calls(LeftGlove x) {
        for (int i = 1; i <= 7; i++) {
            x.one(i, i * 50);
        }
        x.text();
        x.by(0);
        for (int i = 0; i < 12; i++) {
            x.bargain(i % 7, (i + 1 + i % 3) % 7, 5 + i, i % 3, i % 10);
            x.test(1 << i % 7);
            x.claim(i * 100);
            x.chest(1 + i % 9, 8);
            x.grown(i, 1);
        }
        x.played(0);
        for (int i = 0; i < 20; i++) {
            x.winters(i, 40);
            x.foretold(60, 0, 1);
            x.firstFine(i % 7);
            x.order(i % 7, -1);
            x.tries(127, false);
            x.weds(3, i % 7);
            x.unrest(3, 3, 4, 5, 0, 0, 0);
            x.estate(i * 100, i % 6, false);
            x.lives(i % 6);
            x.frosts(3, 4, 8, i % 8, false);
            x.ring();
            x.whoseLaw();
            x.image();
            x.undo();
            x.back();
        }
    }
}
