/** Bargains in gloves: the right one is worn by who must, the left one kept by whom it is owed. */
public final class LeftGlove {
    public static final int NONE = -1;

    private static final int OTHERS = -2;
    private static final int NO_SUCH_ONE = -100000;
    private static final int MOST_PEOPLE = 7;
    private static final int MOST_GLOVES = 12;
    private static final int MOST_TEXTS = 4;
    private static final int MOST_BYTES = 300;
    private static final int MOST_CLAUSES = 24;
    private static final int MOST_STEPS = 30;
    private static final int MOST_FINES = 30;
    private static final int MOST_TESTS = 8;
    private static final int MOST_CLAIMS = 6;
    private static final int MOST_CHESTS = 6;
    private static final int MOST_GROWN = 8;
    private static final int MOST_NUMBER = 9999;
    private static final int LAST_DAY = 9999;
    private static final int MOST_HAND = 9;
    private static final int MOST_WORK = 99;
    private static final int MOST_LEATHER = 2;
    private static final int MOST_MARK = 9;
    private static final int MOST_HOURS = 9;
    private static final int MOST_DAYS = 60;
    private static final int MOST_WINTERS = 40;
    private static final int MOST_SLACK = 8;
    private static final int MOST_PRICE = 9;
    private static final int MOST_SET = 127;
    private static final int MOST_AMOUNT = 99;
    private static final int MOST_GROWTH = 9;

    private final World world;
    private final Steps steps;
    private final Told told;
    private final World imageWorld;
    private final Steps imageSteps;
    private final Told imageTold;
    private final World trial;
    private final Script[] scripts;
    private final Reader reader;
    private final Law law;
    private final Weddings weddings;
    private final Duties duties;
    private final Puzzles puzzles;

    public LeftGlove() {
        world = new World();
        steps = new Steps();
        told = new Told();
        imageWorld = new World();
        imageSteps = new Steps();
        imageTold = new Told();
        trial = new World();
        scripts = new Script[MOST_TEXTS];
        for (int i = 0; i < MOST_TEXTS; i++) {
            scripts[i] = new Script();
        }
        reader = new Reader();
        law = new Law();
        weddings = new Weddings();
        duties = new Duties();
        puzzles = new Puzzles();
    }

    public int one(int hand, int coins) {
        return world.tellOne(hand, coins);
    }

    public int feed(int a, int b, int c, int d, int e) {
        if (!reader.hasRoom()) {
            return NONE;
        }
        reader.take(a);
        reader.take(b);
        reader.take(c);
        reader.take(d);
        reader.take(e);
        return reader.length;
    }

    public int end(int n) {
        if (!isIn(n, 0, reader.length)) {
            return NONE;
        }
        reader.length = n;
        return n;
    }

    public int text() {
        int number = told.texts;
        if (!isIn(number, 0, MOST_TEXTS - 1)) {
            return NONE;
        }
        boolean whole = reader.readTape();
        reader.length = 0;
        if (!whole) {
            return NONE;
        }
        scripts[number].takeOver(reader.draft);
        told.texts = number + 1;
        return number;
    }

    public int fault(int what) {
        if (what == 0) {
            return reader.fault;
        }
        return what == 1 ? reader.faultPlace : NONE;
    }

    public boolean by(int text) {
        if (text != NONE && !isText(text)) {
            return false;
        }
        told.ruling = text;
        return true;
    }

    public int bargain(int from, int by, int work, int leather, int mark) {
        steps.mark(world);
        return kept(world.strike(from, by, work, leather, mark));
    }

    public int work(int glove, int hours) {
        steps.mark(world);
        return kept(world.labour(glove, hours));
    }

    public boolean pass(int glove, int to) {
        steps.mark(world);
        return keptIf(world.handOn(glove, to));
    }

    public boolean lose(int glove) {
        steps.mark(world);
        return keptIf(world.drop(glove));
    }

    public boolean find(int glove, int one) {
        steps.mark(world);
        return keptIf(world.pickUp(glove, one));
    }

    public int pledge(int glove) {
        steps.mark(world);
        return kept(law.pawnOff(world, ruling(), glove));
    }

    public int redeem(int glove) {
        steps.mark(world);
        return kept(law.buyBack(world, ruling(), glove));
    }

    public int day(int n) {
        if (!isIn(n, 1, MOST_DAYS) || world.cells[World.DAY] + n > LAST_DAY) {
            return NONE;
        }
        letDaysPass(n);
        return world.cells[World.FROST];
    }

    public int played(int text) {
        Script script = scriptAt(text);
        if (script == null) {
            return OTHERS;
        }
        for (int clause = 0; clause < script.clauses; clause++) {
            if (!isDone(script, clause)) {
                return clause;
            }
        }
        return NONE;
    }

    public int winters(int seed, int n) {
        boolean fits = isIn(seed, 0, MOST_NUMBER) && isIn(n, 1, MOST_WINTERS);
        if (!fits || world.cells[World.PEOPLE] == 0) {
            return NONE;
        }
        steps.mark(world);
        world.sow(seed);
        for (int i = 0; i < n; i++) {
            drawDeed(world.draw());
        }
        steps.keep();
        return world.cells[World.DAY];
    }

    public int undo() {
        return steps.takeBack(world) ? steps.many : NONE;
    }

    public int of(int one, int what) {
        if (!world.hasOne(one)) {
            return NO_SUCH_ONE;
        }
        switch (what) {
            case 0:
                return world.at(World.HAND, one);
            case 1:
                return world.at(World.COINS, one);
            case 2:
                return world.at(World.COLD, one);
            case 3:
                return world.rightsOf(one);
            case 4:
                return world.leftsOf(one);
            case 5:
                return law.amount(Words.CHILL, ruling(), world, one);
            case 6:
                return law.amount(Words.FINE, ruling(), world, one);
            case 7:
                return world.balanceOf(one);
            default:
                return NO_SUCH_ONE;
        }
    }

    public int ofGlove(int glove, int what) {
        if (!world.hasGlove(glove)) {
            return NONE;
        }
        switch (what) {
            case 0:
                return world.at(World.FROM, glove);
            case 1:
                return world.at(World.HELD, glove);
            case 2:
                return world.at(World.WORK, glove);
            case 3:
                return world.at(World.LEATHER, glove);
            case 4:
                return world.at(World.MARK, glove);
            case 5:
                return world.at(World.SIZE, glove);
            case 6:
                return world.at(World.HOW, glove);
            case 7:
                return law.amount(Words.GROWS, ruling(), world, glove);
            case 8:
                return law.amount(Words.PAWN, ruling(), world, glove);
            default:
                return NONE;
        }
    }

    public int is(int what) {
        switch (what) {
            case 0:
                return world.cells[World.DAY];
            case 1:
                return world.cells[World.FROST];
            case 2:
                return world.cells[World.DRAW];
            case 3:
                return world.cells[World.GLOVES];
            default:
                return OTHERS;
        }
    }

    public int book(int i, int what) {
        if (i == NONE) {
            return world.cells[World.FINES];
        }
        if (!world.hasFine(i)) {
            return OTHERS;
        }
        switch (what) {
            case 0:
                return world.fineDay(i);
            case 1:
                return world.fineWho(i);
            case 2:
                return world.fineCoins(i);
            default:
                return OTHERS;
        }
    }

    public int foretold(int n, int one, int what) {
        boolean fits = isIn(n, 1, MOST_DAYS) && (what == 0 || isIn(what, 1, 2) && world.hasOne(one));
        if (!fits) {
            return NONE;
        }
        trial.takeOver(world);
        for (int i = 0; i < n; i++) {
            law.passDay(trial, ruling());
        }
        if (what == 0) {
            return trial.cells[World.FROST];
        }
        return trial.at(what == 1 ? World.COLD : World.COINS, one);
    }

    public int firstFine(int one) {
        if (!world.hasOne(one)) {
            return NONE;
        }
        trial.takeOver(world);
        for (int i = 1; i <= MOST_DAYS && trial.dayCanPass(); i++) {
            int fined = law.passDay(trial, ruling());
            if ((fined >> one & 1) == 1) {
                return i;
            }
        }
        return NONE;
    }

    public int free() {
        int people = 0;
        for (int one = 0; one < world.cells[World.PEOPLE]; one++) {
            if (world.rightsOf(one) == 0) {
                people |= 1 << one;
            }
        }
        return people;
    }

    public boolean price(int glove, int price) {
        if (!isIn(glove, 0, MOST_GLOVES - 1) || !isIn(price, 0, MOST_PRICE)) {
            return false;
        }
        told.prices.change(glove, price);
        return true;
    }

    public int order(int one, int i) {
        if (!world.hasOne(one)) {
            return OTHERS;
        }
        duties.arrange(world, told.prices, one);
        if (i == NONE) {
            return duties.cost(world, told.prices);
        }
        return isIn(i, 0, duties.row.many - 1) ? duties.row.itemAt(i) : OTHERS;
    }

    public int whose(int size, int t) {
        if (!isIn(size, 1, MOST_HAND) || !isIn(t, 0, MOST_SLACK)) {
            return NONE;
        }
        return world.whomFits(size, t);
    }

    public int test(int people) {
        return toldInto(told.tests, people, MOST_SET);
    }

    public int tries(int people, boolean first) {
        int all = (1 << world.cells[World.PEOPLE]) - 1;
        if (people <= 0 || (people & ~all) != 0) {
            return OTHERS;
        }
        int many = puzzles.fewestTries(told.tests, people);
        if (many == Puzzles.NEVER) {
            return OTHERS;
        }
        return first ? puzzles.firstTest : many;
    }

    public int weds(int m, int one) {
        if (!canWed(m) || !world.hasOne(one)) {
            return NONE;
        }
        weddings.wedAll(world, m);
        return weddings.mateOf(one);
    }

    public int unrest(int m, int a, int b, int c, int d, int e, int f) {
        if (!canWed(m)) {
            return NONE;
        }
        weddings.leaveAll();
        boolean fits = weddings.takes(world, m, 0, a) && weddings.takes(world, m, 1, b)
                && weddings.takes(world, m, 2, c) && weddings.takes(world, m, 3, d)
                && weddings.takes(world, m, 4, e) && weddings.takes(world, m, 5, f);
        return fits ? weddings.restless(world, m) : NONE;
    }

    public int claim(int claim) {
        return toldInto(told.claims, claim, MOST_NUMBER);
    }

    public int estate(int e, int k, boolean low) {
        if (!isIn(e, 0, MOST_NUMBER) || !isIn(k, 0, told.claims.many - 1)) {
            return NONE;
        }
        puzzles.share(told.claims, e, k);
        return low ? puzzles.lower : puzzles.upper;
    }

    public int auction(int glove, boolean paid) {
        if (!world.isHow(glove, World.LOST)) {
            return NONE;
        }
        int winner = world.highestBidder(glove, NONE);
        if (winner == NONE || !paid) {
            return winner;
        }
        int second = world.highestBidder(glove, winner);
        return second == NONE ? 0 : world.bidOf(second, glove);
    }

    public int chest(int size, int t) {
        if (size == NONE) {
            told.chestSizes.empty();
            told.chestSlacks.empty();
            return 0;
        }
        boolean fits = isIn(size, 1, MOST_HAND) && isIn(t, 0, MOST_SLACK);
        if (!fits || !told.chestSizes.put(size) || !told.chestSlacks.put(t)) {
            return OTHERS;
        }
        return told.chestSizes.many;
    }

    public int lives(int k) {
        if (k == NONE) {
            return puzzles.waysOf(world, told, NONE, NONE);
        }
        return isIn(k, 0, told.chestSizes.many - 1) ? puzzles.sureOwner(world, told, k) : OTHERS;
    }

    public int frosts(int c, int d, int n, int k, boolean low) {
        if (!isIn(c, 0, Puzzles.PARTS) || !isIn(d, 0, Puzzles.PARTS)) {
            return NONE;
        }
        if (!isIn(n, 1, Puzzles.MOST_FROSTS) || !isIn(k, 0, n)) {
            return NONE;
        }
        puzzles.oddsOfFrosts(c, d, n, k);
        return low ? puzzles.lower : puzzles.upper;
    }

    public int ring() {
        return duties.shortestRing(world);
    }

    public int richest() {
        int best = NONE;
        int most = 0;
        for (int one = 0; one < world.cells[World.PEOPLE]; one++) {
            int owed = world.workOfLefts(one);
            if (owed > most) {
                most = owed;
                best = one;
            }
        }
        return best;
    }

    public int grown(int glove, int more) {
        if (glove == NONE) {
            told.grownGloves.empty();
            told.grownAmounts.empty();
            return 0;
        }
        boolean fits = world.hasGlove(glove) && isIn(more, 0, MOST_GROWTH);
        if (!fits || !told.grownGloves.put(glove) || !told.grownAmounts.put(more)) {
            return OTHERS;
        }
        return told.grownGloves.many;
    }

    public int whoseLaw() {
        int texts = 0;
        for (int text = 0; text < told.texts; text++) {
            if (explainsGrowth(scriptAt(text))) {
                texts |= 1 << text;
            }
        }
        return texts;
    }

    public int fined(int one) {
        if (one != NONE && !world.hasOne(one)) {
            return OTHERS;
        }
        int coins = 0;
        for (int i = 0; i < world.cells[World.FINES]; i++) {
            if (one == NONE || world.fineWho(i) == one) {
                coins += world.fineCoins(i);
            }
        }
        return coins;
    }

    public int pairs() {
        int many = 0;
        for (int b = 1; b < world.cells[World.GLOVES]; b++) {
            for (int a = 0; a < b; a++) {
                if (world.isPair(a, b)) {
                    many++;
                }
            }
        }
        return many;
    }

    public int coldest() {
        int best = NONE;
        for (int one = 0; one < world.cells[World.PEOPLE]; one++) {
            if (best == NONE || world.at(World.COLD, one) > world.at(World.COLD, best)) {
                best = one;
            }
        }
        return best;
    }

    public int image() {
        imageWorld.takeOver(world);
        imageSteps.takeOver(steps);
        imageTold.takeOver(told);
        return world.cells[World.DAY];
    }

    public int back() {
        world.takeOver(imageWorld);
        steps.takeOver(imageSteps);
        told.takeOver(imageTold);
        return world.cells[World.DAY];
    }

    public int about(int what) {
        switch (what) {
            case 0:
                return world.cells[World.PEOPLE];
            case 1:
                return told.texts;
            case 2:
                return told.ruling;
            case 3:
                return steps.many;
            case 4:
                return told.tests.many;
            case 5:
                return told.claims.many;
            case 6:
                return told.chestSizes.many;
            case 7:
                return told.grownGloves.many;
            case 8:
                return reader.length;
            default:
                return OTHERS;
        }
    }

    private static boolean isIn(int value, int least, int most) {
        return value >= least && value <= most;
    }

    private static int commonOf(int a, int b) {
        int large = Math.abs(a);
        int small = Math.abs(b);
        // Two rounds at least halve the larger one, so 64 are enough for every int.
        for (int i = 0; i < 64 && small != 0; i++) {
            int rest = large % small;
            large = small;
            small = rest;
        }
        return large;
    }

    private static int toldInto(Row row, int item, int most) {
        if (item == NONE) {
            row.empty();
            return 0;
        }
        return isIn(item, 0, most) && row.put(item) ? row.many : OTHERS;
    }

    private boolean isText(int text) {
        return text >= 0 && text < told.texts && text < MOST_TEXTS;
    }

    private Script scriptAt(int text) {
        return isText(text) ? scripts[text] : null;
    }

    private Script ruling() {
        return scriptAt(told.ruling);
    }

    private int kept(int answer) {
        if (answer != NONE) {
            steps.keep();
        }
        return answer;
    }

    private boolean keptIf(boolean isDone) {
        if (isDone) {
            steps.keep();
        }
        return isDone;
    }

    private boolean letDaysPass(int n) {
        for (int i = 0; i < n; i++) {
            if (!world.dayCanPass()) {
                return false;
            }
            steps.mark(world);
            law.passDay(world, ruling());
            steps.keep();
        }
        return true;
    }

    private boolean isDone(Script script, int clause) {
        int a = script.numberAt(clause, 0);
        int b = script.numberAt(clause, 1);
        switch (script.kindAt(clause)) {
            case Words.ONE:
                return one(a, b) != NONE;
            case Words.OWE:
                return bargain(a, b, script.numberAt(clause, 2), script.numberAt(clause, 3),
                        script.numberAt(clause, 4)) != NONE;
            case Words.DO:
                return work(a, b) != NONE;
            case Words.PASS:
                return pass(a, b);
            case Words.LOSE:
                return lose(a);
            case Words.PLEDGE:
                return pledge(a) != NONE;
            case Words.REDEEM:
                return redeem(a) != NONE;
            case Words.DAY:
                return letDaysPass(a);
            default:
                return true;
        }
    }

    private void drawDeed(int x) {
        int people = world.cells[World.PEOPLE];
        int gloves = world.cells[World.GLOVES];
        if (people <= 0) {
            return;
        }
        int deed = x % 7;
        if (deed == 0) {
            world.strike(x % people, x / 7 % people, 1 + x % 20, x % 3, x % 10);
        } else if (deed > 4) {
            law.passDay(world, ruling());
        } else if (gloves > 0) {
            drawOnGlove(deed, x, x % gloves, x / 5 % people);
        }
    }

    private void drawOnGlove(int deed, int x, int glove, int to) {
        if (deed == 1) {
            world.labour(glove, 1 + x % 9);
        } else if (deed == 2) {
            world.handOn(glove, to);
        } else if (deed == 3 && x % 3 == 0) {
            world.drop(glove);
        } else if (deed == 4) {
            law.pawnOff(world, ruling(), glove);
        }
    }

    private boolean canWed(int m) {
        return isIn(m, 1, MOST_PEOPLE - 1) && world.cells[World.PEOPLE] > m;
    }

    private boolean explainsGrowth(Script script) {
        for (int i = 0; i < told.grownGloves.many; i++) {
            int glove = told.grownGloves.itemAt(i);
            boolean isThere = world.hasGlove(glove);
            if (isThere && law.amount(Words.GROWS, script, world, glove) != told.grownAmounts.itemAt(i)) {
                return false;
            }
        }
        return true;
    }

    /** People, gloves, the day and the book, in one row of cells so that a step is kept by one copy. */
    private static final class World {
        static final int PEOPLE = 0;
        static final int HAND = 1;
        static final int COINS = 8;
        static final int COLD = 15;
        static final int DAY = 22;
        static final int FROST = 23;
        static final int DRAW = 24;
        static final int GLOVES = 25;
        static final int FINES = 26;
        static final int FROM = 27;
        static final int HELD = 39;
        static final int WORK = 51;
        static final int LEATHER = 63;
        static final int MARK = 75;
        static final int SIZE = 87;
        static final int HOW = 99;
        static final int BOOK = 111;
        static final int CELLS = 141;

        static final int OWED = 0;
        static final int DONE = 1;
        static final int LOST = 2;
        static final int PAWNED = 3;

        static final int FIRST_DRAW = 139;
        static final int BID_FOR_EACH = 10;
        static final int HANDS = 2;

        final int[] cells;

        World() {
            cells = new int[CELLS];
            cells[DRAW] = FIRST_DRAW;
        }

        int at(int part, int i) {
            int cell = part + i;
            return cell >= 0 && cell < CELLS ? cells[cell] : 0;
        }

        void change(int part, int i, int value) {
            int cell = part + i;
            if (cell >= 0 && cell < CELLS) {
                cells[cell] = value;
            }
        }

        void takeOver(World other) {
            System.arraycopy(other.cells, 0, cells, 0, CELLS);
        }

        /** People told since that row was kept stay as they are: no step that is left has touched them. */
        void takeBack(int[] row) {
            int people = cells[PEOPLE];
            for (int one = row[PEOPLE]; one >= 0 && one < people && one < MOST_PEOPLE; one++) {
                row[HAND + one] = cells[HAND + one];
                row[COINS + one] = cells[COINS + one];
                row[COLD + one] = cells[COLD + one];
            }
            row[PEOPLE] = people;
            System.arraycopy(row, 0, cells, 0, CELLS);
        }

        boolean hasOne(int one) {
            return one >= 0 && one < cells[PEOPLE];
        }

        boolean hasGlove(int glove) {
            return glove >= 0 && glove < cells[GLOVES];
        }

        boolean hasFine(int i) {
            return i >= 0 && i < cells[FINES];
        }

        boolean isHow(int glove, int how) {
            return hasGlove(glove) && at(HOW, glove) == how;
        }

        boolean isOpen(int glove) {
            return isHow(glove, OWED) || isHow(glove, PAWNED);
        }

        boolean dayCanPass() {
            return cells[DAY] < LAST_DAY;
        }

        int tellOne(int hand, int coins) {
            int one = cells[PEOPLE];
            if (one >= MOST_PEOPLE || !isIn(hand, 1, MOST_HAND) || !isIn(coins, 0, MOST_NUMBER)) {
                return NONE;
            }
            change(HAND, one, hand);
            change(COINS, one, coins);
            change(COLD, one, 0);
            cells[PEOPLE] = one + 1;
            return one;
        }

        int strike(int from, int by, int work, int leather, int mark) {
            int glove = cells[GLOVES];
            boolean isKind = isIn(work, 1, MOST_WORK) && isIn(leather, 0, MOST_LEATHER) && isIn(mark, 0, MOST_MARK);
            if (glove >= MOST_GLOVES || !isKind || !hasOne(from) || !hasOne(by) || from == by) {
                return NONE;
            }
            change(FROM, glove, from);
            change(HELD, glove, by);
            change(WORK, glove, work);
            change(LEATHER, glove, leather);
            change(MARK, glove, mark);
            change(SIZE, glove, at(HAND, from));
            change(HOW, glove, OWED);
            cells[GLOVES] = glove + 1;
            return glove;
        }

        int labour(int glove, int hours) {
            if (!isOpen(glove) || !isIn(hours, 1, MOST_HOURS)) {
                return NONE;
            }
            int yet = Math.max(0, at(WORK, glove) - hours);
            change(WORK, glove, yet);
            if (yet == 0) {
                change(HOW, glove, DONE);
            }
            return yet;
        }

        boolean handOn(int glove, int to) {
            boolean isOther = to != at(FROM, glove) && to != at(HELD, glove);
            if (!isHow(glove, OWED) || !hasOne(to) || !isOther) {
                return false;
            }
            change(HELD, glove, to);
            return true;
        }

        boolean drop(int glove) {
            if (!isHow(glove, OWED)) {
                return false;
            }
            change(HOW, glove, LOST);
            return true;
        }

        boolean pickUp(int glove, int one) {
            if (!isHow(glove, LOST) || !hasOne(one) || one == at(FROM, glove)) {
                return false;
            }
            change(HELD, glove, one);
            change(HOW, glove, OWED);
            return true;
        }

        void sow(int seed) {
            cells[DRAW] = seed * 2 + FIRST_DRAW;
        }

        int draw() {
            int x = cells[DRAW];
            cells[DRAW] = (x * 373 + 251) % 30467;
            return x;
        }

        /** Asks no other method, for laws ask it where calls already stand deep. */
        int rightsOf(int one) {
            int many = 0;
            for (int glove = 0; glove < MOST_GLOVES && glove < cells[GLOVES]; glove++) {
                int how = cells[HOW + glove];
                if ((how == OWED || how == PAWNED) && cells[FROM + glove] == one) {
                    many++;
                }
            }
            return many;
        }

        int leftsOf(int one) {
            int many = 0;
            for (int glove = 0; glove < MOST_GLOVES && glove < cells[GLOVES]; glove++) {
                if (cells[HOW + glove] == OWED && cells[HELD + glove] == one) {
                    many++;
                }
            }
            return many;
        }

        int bareHandsOf(int one) {
            int worn = 0;
            for (int glove = 0; glove < MOST_GLOVES && glove < cells[GLOVES]; glove++) {
                int how = cells[HOW + glove];
                boolean isRight = (how == OWED || how == PAWNED) && cells[FROM + glove] == one;
                boolean isLeft = how == OWED && cells[HELD + glove] == one;
                if (isRight || isLeft) {
                    worn++;
                }
            }
            return Math.max(0, HANDS - worn);
        }

        int workOfLefts(int one) {
            int sum = 0;
            for (int glove = 0; glove < cells[GLOVES]; glove++) {
                if (isHow(glove, OWED) && at(HELD, glove) == one) {
                    sum += at(WORK, glove);
                }
            }
            return sum;
        }

        int balanceOf(int one) {
            int sum = 0;
            for (int glove = 0; glove < cells[GLOVES]; glove++) {
                if (isOpen(glove) && at(HELD, glove) == one) {
                    sum += at(WORK, glove);
                }
                if (isOpen(glove) && at(FROM, glove) == one) {
                    sum -= at(WORK, glove);
                }
            }
            return sum;
        }

        boolean isPair(int a, int b) {
            return isOpen(a) && isOpen(b) && at(SIZE, a) == at(SIZE, b) && at(LEATHER, a) == at(LEATHER, b);
        }

        boolean fits(int one, int size, int slack) {
            return hasOne(one) && Math.abs(at(HAND, one) - size) <= slack;
        }

        int whomFits(int size, int slack) {
            int people = 0;
            for (int one = 0; one < cells[PEOPLE]; one++) {
                if (fits(one, size, slack)) {
                    people |= 1 << one;
                }
            }
            return people;
        }

        int bidOf(int one, int glove) {
            return Math.min(at(COINS, one), BID_FOR_EACH * (at(MARK, glove) + at(WORK, glove)));
        }

        int highestBidder(int glove, int but) {
            int best = NONE;
            for (int one = 0; one < cells[PEOPLE]; one++) {
                boolean bids = one != but && at(COINS, one) > 0;
                if (bids && (best == NONE || bidOf(one, glove) > bidOf(best, glove))) {
                    best = one;
                }
            }
            return best;
        }

        /** A fine is one cell: the day, who, and two digits of coins. */
        void writeFine(int one, int coins) {
            if (cells[FINES] >= MOST_FINES) {
                System.arraycopy(cells, BOOK + 1, cells, BOOK, MOST_FINES - 1);
                cells[FINES] = MOST_FINES - 1;
            }
            change(BOOK, cells[FINES], cells[DAY] * 1000 + one * 100 + coins);
            cells[FINES]++;
        }

        int fineDay(int i) {
            return at(BOOK, i) / 1000;
        }

        int fineWho(int i) {
            return at(BOOK, i) / 100 % 10;
        }

        int fineCoins(int i) {
            return at(BOOK, i) % 100;
        }
    }

    /** The latest steps as rows of cells, the eldest first, in a round with one row to spare. */
    private static final class Steps {
        static final int ROWS = MOST_STEPS + 1;

        final int[][] rows;
        int first;
        int many;

        Steps() {
            rows = new int[ROWS][World.CELLS];
        }

        /** Writes down how it is ahead of a step that may yet prove impossible. */
        void mark(World world) {
            System.arraycopy(world.cells, 0, rows[Math.floorMod(first + many, ROWS)], 0, World.CELLS);
        }

        void keep() {
            if (many < MOST_STEPS) {
                many++;
            } else {
                first = Math.floorMod(first + 1, ROWS);
            }
        }

        boolean takeBack(World world) {
            if (many <= 0) {
                return false;
            }
            many--;
            world.takeBack(rows[Math.floorMod(first + many, ROWS)]);
            return true;
        }

        void takeOver(Steps other) {
            for (int i = 0; i < ROWS; i++) {
                System.arraycopy(other.rows[i], 0, rows[i], 0, World.CELLS);
            }
            first = other.first;
            many = other.many;
        }
    }

    /** Up to so many numbers, told one by one. */
    private static final class Row {
        final int[] items;
        int many;

        Row(int most) {
            items = new int[Math.max(0, most)];
        }

        boolean put(int item) {
            if (many < 0 || many >= items.length) {
                return false;
            }
            items[many] = item;
            many++;
            return true;
        }

        void change(int i, int item) {
            if (i >= 0 && i < items.length) {
                items[i] = item;
            }
        }

        int itemAt(int i) {
            return i >= 0 && i < items.length ? items[i] : 0;
        }

        void empty() {
            many = 0;
        }

        void takeOver(Row other) {
            for (int i = 0; i < items.length; i++) {
                items[i] = other.itemAt(i);
            }
            many = other.many;
        }
    }

    /** What is told beside the world, and no step takes back. */
    private static final class Told {
        final Row prices;
        final Row tests;
        final Row claims;
        final Row chestSizes;
        final Row chestSlacks;
        final Row grownGloves;
        final Row grownAmounts;
        int texts;
        int ruling;

        Told() {
            prices = new Row(MOST_GLOVES);
            for (int i = 0; i < MOST_GLOVES; i++) {
                prices.put(1);
            }
            tests = new Row(MOST_TESTS);
            claims = new Row(MOST_CLAIMS);
            chestSizes = new Row(MOST_CHESTS);
            chestSlacks = new Row(MOST_CHESTS);
            grownGloves = new Row(MOST_GROWN);
            grownAmounts = new Row(MOST_GROWN);
            ruling = NONE;
        }

        /** Texts themselves need no copy: those that an image counts are never read anew. */
        void takeOver(Told other) {
            prices.takeOver(other.prices);
            tests.takeOver(other.tests);
            claims.takeOver(other.claims);
            chestSizes.takeOver(other.chestSizes);
            chestSlacks.takeOver(other.chestSlacks);
            grownGloves.takeOver(other.grownGloves);
            grownAmounts.takeOver(other.grownAmounts);
            texts = other.texts;
            ruling = other.ruling;
        }
    }

    /** The numbers of all tokens; those of words are their places in SPELLED. */
    private static final class Words {
        static final int CHILL = 0;
        static final int FINE = 1;
        static final int GROWS = 2;
        static final int PAWN = 3;
        static final int ONE = 4;
        static final int OWE = 5;
        static final int DO = 6;
        static final int PASS = 7;
        static final int LOSE = 8;
        static final int PLEDGE = 9;
        static final int REDEEM = 10;
        static final int DAY = 11;
        static final int FROST = 12;
        static final int WHO = 13;
        static final int HAND = 14;
        static final int COINS = 15;
        static final int COLD = 16;
        static final int RIGHTS = 17;
        static final int BARE = 18;
        static final int WORK = 19;
        static final int LEATHER = 20;
        static final int SIZE = 21;
        static final int MARK = 22;
        static final int FROM = 23;
        static final int BY = 24;
        static final int TO = 25;
        static final int HOURS = 26;
        static final int COMMON = 27;
        static final int WITH = 28;
        static final int LEFTS = 29;
        static final int IF = 30;
        static final int THEN = 31;
        static final int ELSE = 32;
        static final int END = 33;
        static final int OR = 34;
        static final int AND = 35;
        static final int NOT = 36;
        static final int LESS = 37;
        static final int MORE = 38;
        static final int SAME = 39;
        static final int UNLIKE = 40;
        static final int PLUS = 41;
        static final int MINUS = 42;
        static final int TIMES = 43;
        static final int OVER = 44;
        static final int OPENING = 45;
        static final int CLOSING = 46;
        static final int STOP = 47;
        static final int AT_MOST = 48;
        static final int AT_LEAST = 49;
        static final int NEGATE = 50;
        static final int NUMBER = 51;
        static final int THE_END = 52;
        static final int NOTHING = 53;

        static final int LAWS = 4;
        static final int WORDS = 37;
        static final String SPELLED = "chill fine grows pawn one owe do pass lose pledge redeem day frost who hand coins cold rights bare work leather size mark from by to hours common with lefts if then else end or and not ";
        static final String SYMBOLS = "<>=#+-*/();";

        /** The word of the signs from .. to - 1, NOTHING if they spell none. */
        static int wordOf(int[] signs, int from, int to) {
            int start = 0;
            for (int word = 0; word < WORDS; word++) {
                boolean isLike = true;
                int i = start;
                for (; i < SPELLED.length() && SPELLED.charAt(i) != ' '; i++) {
                    int sign = from + i - start;
                    isLike = isLike && sign >= 0 && sign < to && sign < signs.length && signs[sign] == SPELLED.charAt(i);
                }
                if (isLike && i - start == to - from) {
                    return word;
                }
                start = i + 1;
            }
            return NOTHING;
        }

        static int symbolOf(int sign) {
            int symbol = SYMBOLS.indexOf((char) sign);
            return symbol < 0 ? NOTHING : LESS + symbol;
        }

        static boolean isClauseStart(int kind) {
            return kind >= CHILL && kind <= DAY;
        }

        static boolean isLaw(int kind) {
            return kind >= CHILL && kind <= PAWN;
        }

        static boolean isName(int kind) {
            return kind >= DAY && kind <= BY;
        }

        static boolean isNameOf(int law, int kind) {
            if (kind == DAY || kind == FROST) {
                return true;
            }
            boolean isOfPeople = kind >= WHO && kind <= BARE;
            boolean asksPeople = law == CHILL || law == FINE;
            return isName(kind) && isOfPeople == asksPeople;
        }

        static boolean compares(int kind) {
            return kind >= LESS && kind <= UNLIKE || kind == AT_MOST || kind == AT_LEAST;
        }
    }

    /**
     * A text that was read: its clauses, each with cells of code. A cell of 0 or more is a number;
     * -1 less a token's number is what that token does to the numbers ahead of it.
     */
    private static final class Script {
        final int[] kinds;
        final int[] starts;
        final int[] stops;
        final int[] code;
        final int[] laws;
        int clauses;
        int length;

        Script() {
            kinds = new int[MOST_CLAUSES];
            starts = new int[MOST_CLAUSES];
            stops = new int[MOST_CLAUSES];
            code = new int[MOST_BYTES];
            laws = new int[Words.LAWS];
        }

        void empty() {
            clauses = 0;
            length = 0;
            for (int law = 0; law < Words.LAWS; law++) {
                laws[law] = NONE;
            }
        }

        void startClause(int kind) {
            if (clauses < 0 || clauses >= MOST_CLAUSES) {
                return;
            }
            kinds[clauses] = kind;
            starts[clauses] = length;
            if (kind >= 0 && kind < Words.LAWS) {
                laws[kind] = clauses;
            }
        }

        void endClause() {
            if (clauses < 0 || clauses >= MOST_CLAUSES) {
                return;
            }
            stops[clauses] = length;
            clauses++;
        }

        void add(int cell) {
            // No token makes more cells than it has bytes, so a text's code always finds room.
            if (length >= 0 && length < MOST_BYTES) {
                code[length] = cell;
                length++;
            }
        }

        void addDeed(int token) {
            add(-1 - token);
        }

        /** A leap whose aim isn't known yet: the place of the cell for it. */
        int addLeap(int token) {
            addDeed(token);
            add(0);
            return length - 1;
        }

        void aimHere(int leap) {
            if (leap >= 0 && leap < MOST_BYTES) {
                code[leap] = length;
            }
        }

        int lawAt(int law) {
            return law >= 0 && law < Words.LAWS ? laws[law] : NONE;
        }

        boolean hasClause(int clause) {
            return clause >= 0 && clause < clauses && clause < MOST_CLAUSES;
        }

        int kindAt(int clause) {
            return hasClause(clause) ? kinds[clause] : NONE;
        }

        int startOf(int clause) {
            return hasClause(clause) ? starts[clause] : 0;
        }

        int stopOf(int clause) {
            return hasClause(clause) ? stops[clause] : 0;
        }

        int cellAt(int i) {
            return i >= 0 && i < MOST_BYTES ? code[i] : 0;
        }

        int numberAt(int clause, int i) {
            int place = startOf(clause) + i;
            return place < stopOf(clause) ? cellAt(place) : 0;
        }

        void takeOver(Script other) {
            System.arraycopy(other.kinds, 0, kinds, 0, MOST_CLAUSES);
            System.arraycopy(other.starts, 0, starts, 0, MOST_CLAUSES);
            System.arraycopy(other.stops, 0, stops, 0, MOST_CLAUSES);
            System.arraycopy(other.code, 0, code, 0, MOST_BYTES);
            System.arraycopy(other.laws, 0, laws, 0, Words.LAWS);
            clauses = other.clauses;
            length = other.length;
        }
    }

    /** The tape, and the reading of it into a draft, token by token, till the first fault. */
    private static final class Reader {
        static final int FEED = 20;
        static final int MOST_OPEN = 8;
        static final int CANNOT_STAND = 1;
        static final int NO_SUCH_NUMBER = 2;
        static final int TOO_DEEP = 3;
        static final int LAW_TWICE = 4;
        static final int FOREIGN_NAME = 5;
        static final int TOO_MANY = 6;

        /** The numbers of each deed in their order: the deed, the word ahead (NONE: none), the least, the most. */
        static final int[] FORMS = {
            Words.ONE, NONE, 1, MOST_HAND,
            Words.ONE, Words.COINS, 0, MOST_NUMBER,
            Words.OWE, NONE, 0, MOST_PEOPLE - 1,
            Words.OWE, Words.TO, 0, MOST_PEOPLE - 1,
            Words.OWE, Words.WORK, 1, MOST_WORK,
            Words.OWE, Words.LEATHER, 0, MOST_LEATHER,
            Words.OWE, Words.MARK, 0, MOST_MARK,
            Words.DO, NONE, 0, MOST_GLOVES - 1,
            Words.DO, Words.HOURS, 1, MOST_HOURS,
            Words.PASS, NONE, 0, MOST_GLOVES - 1,
            Words.PASS, Words.TO, 0, MOST_PEOPLE - 1,
            Words.LOSE, NONE, 0, MOST_GLOVES - 1,
            Words.PLEDGE, NONE, 0, MOST_GLOVES - 1,
            Words.REDEEM, NONE, 0, MOST_GLOVES - 1,
            Words.DAY, NONE, 1, MOST_DAYS,
        };

        final Script draft;
        final int[] tape;
        int length;
        int fault;
        int faultPlace;
        private int kind;
        private int number;
        private int place;
        private int next;
        private int law;

        Reader() {
            draft = new Script();
            tape = new int[MOST_BYTES];
            fault = NONE;
            faultPlace = NONE;
        }

        boolean hasRoom() {
            return length + FEED <= MOST_BYTES;
        }

        void take(int bytes) {
            for (int shift = 24; shift >= 0; shift -= 8) {
                if (length >= 0 && length < MOST_BYTES) {
                    tape[length] = bytes >> shift & 255;
                    length++;
                }
            }
        }

        boolean readTape() {
            draft.empty();
            fault = 0;
            faultPlace = NONE;
            next = 0;
            advance();
            for (int i = 0; i <= MOST_CLAUSES && kind != Words.THE_END; i++) {
                if (!readClause()) {
                    return false;
                }
            }
            return true;
        }

        private boolean fails(int why) {
            fault = why;
            faultPlace = place;
            return false;
        }

        private boolean isTapeAt(int i) {
            return i >= 0 && i < length && i < MOST_BYTES;
        }

        private void advance() {
            int start = next;
            while (start < length && isTapeAt(start) && (tape[start] == 32 || tape[start] == 10)) {
                start++;
            }
            place = start;
            next = start;
            if (!isTapeAt(next)) {
                kind = Words.THE_END;
                place = length;
            } else if (isLetter(tape[next])) {
                advanceOverWord();
            } else if (isDigit(tape[next])) {
                advanceOverNumber();
            } else {
                advanceOverSymbol();
            }
        }

        private void advanceOverWord() {
            int stop = place;
            while (stop < length && isTapeAt(stop) && isLetter(tape[stop])) {
                stop++;
            }
            next = stop;
            kind = Words.wordOf(tape, place, stop);
        }

        private void advanceOverNumber() {
            int stop = place;
            number = 0;
            while (stop < length && isTapeAt(stop) && isDigit(tape[stop])) {
                number = Math.min(number * 10 + tape[stop] - '0', MOST_NUMBER + 1);
                stop++;
            }
            next = stop;
            kind = Words.NUMBER;
        }

        private void advanceOverSymbol() {
            kind = isTapeAt(next) ? Words.symbolOf(tape[next]) : Words.NOTHING;
            next++;
            boolean isLonger = isTapeAt(next) && tape[next] == '=';
            if (isLonger && (kind == Words.LESS || kind == Words.MORE)) {
                kind = kind == Words.LESS ? Words.AT_MOST : Words.AT_LEAST;
                next++;
            }
        }

        private static boolean isLetter(int sign) {
            return sign >= 'a' && sign <= 'z' || sign >= 'A' && sign <= 'Z';
        }

        private static boolean isDigit(int sign) {
            return sign >= '0' && sign <= '9';
        }

        private boolean readClause() {
            if (!Words.isClauseStart(kind)) {
                return fails(CANNOT_STAND);
            }
            if (Words.isLaw(kind) && draft.lawAt(kind) != NONE) {
                return fails(LAW_TWICE);
            }
            if (draft.clauses >= MOST_CLAUSES) {
                return fails(TOO_MANY);
            }
            law = kind;
            draft.startClause(kind);
            advance();
            boolean isRead = Words.isLaw(law) ? readSum(0) : readNumbers(law);
            draft.endClause();
            return isRead && expects(Words.STOP);
        }

        private boolean readNumbers(int deed) {
            boolean isRead = true;
            for (int i = 0; i + 3 < FORMS.length && isRead; i += 4) {
                if (FORMS[i] == deed) {
                    isRead = FORMS[i + 1] == NONE || expects(FORMS[i + 1]);
                    isRead = isRead && readNumber(FORMS[i + 2], FORMS[i + 3]);
                }
            }
            return isRead;
        }

        private boolean readNumber(int least, int most) {
            if (kind != Words.NUMBER) {
                return fails(CANNOT_STAND);
            }
            if (!isIn(number, least, most)) {
                return fails(NO_SUCH_NUMBER);
            }
            draft.add(number);
            advance();
            return true;
        }

        private boolean expects(int token) {
            if (kind != token) {
                return fails(CANNOT_STAND);
            }
            advance();
            return true;
        }

        private boolean opens(int open) {
            if (open >= MOST_OPEN) {
                return fails(TOO_DEEP);
            }
            advance();
            return true;
        }

        private boolean readSum(int open) {
            boolean isRead = readProduct(open);
            for (int i = 0; i < MOST_BYTES && isRead && (kind == Words.PLUS || kind == Words.MINUS); i++) {
                int deed = kind;
                advance();
                isRead = readProduct(open);
                draft.addDeed(deed);
            }
            return isRead;
        }

        private boolean readProduct(int open) {
            boolean isRead = readOne(open);
            for (int i = 0; i < MOST_BYTES && isRead && (kind == Words.TIMES || kind == Words.OVER); i++) {
                int deed = kind;
                advance();
                isRead = readOne(open);
                draft.addDeed(deed);
            }
            return isRead;
        }

        private boolean readOne(int open) {
            switch (kind) {
                case Words.NUMBER:
                    return readNumber(0, MOST_NUMBER);
                case Words.OPENING:
                    return opens(open) && readSum(open + 1) && expects(Words.CLOSING);
                case Words.MINUS:
                    return opens(open) && readOne(open + 1) && does(Words.NEGATE);
                case Words.LEFTS:
                    return opens(open) && readOne(open + 1) && does(Words.LEFTS);
                case Words.COMMON:
                    return opens(open) && readOne(open + 1) && expects(Words.WITH) && readOne(open + 1)
                            && does(Words.COMMON);
                case Words.IF:
                    return opens(open) && readChoice(open + 1);
                default:
                    return readName();
            }
        }

        private boolean does(int deed) {
            draft.addDeed(deed);
            return true;
        }

        private boolean readName() {
            if (!Words.isName(kind)) {
                return fails(CANNOT_STAND);
            }
            if (!Words.isNameOf(law, kind)) {
                return fails(FOREIGN_NAME);
            }
            draft.addDeed(kind);
            advance();
            return true;
        }

        private boolean readChoice(int open) {
            if (!readEither(open) || !expects(Words.THEN)) {
                return false;
            }
            int toElse = draft.addLeap(Words.THEN);
            if (!readSum(open) || !expects(Words.ELSE)) {
                return false;
            }
            int toEnd = draft.addLeap(Words.ELSE);
            draft.aimHere(toElse);
            if (!readSum(open) || !expects(Words.END)) {
                return false;
            }
            draft.aimHere(toEnd);
            return true;
        }

        private boolean readEither(int open) {
            boolean isRead = readBoth(open);
            for (int i = 0; i < MOST_BYTES && isRead && kind == Words.OR; i++) {
                advance();
                isRead = readBoth(open);
                draft.addDeed(Words.OR);
            }
            return isRead;
        }

        private boolean readBoth(int open) {
            boolean isRead = readAsk(open);
            for (int i = 0; i < MOST_BYTES && isRead && kind == Words.AND; i++) {
                advance();
                isRead = readAsk(open);
                draft.addDeed(Words.AND);
            }
            return isRead;
        }

        private boolean readAsk(int open) {
            if (kind == Words.NOT) {
                return opens(open) && readAsk(open + 1) && does(Words.NOT);
            }
            if (!readSum(open)) {
                return false;
            }
            int deed = kind;
            if (!Words.compares(deed)) {
                return fails(CANNOT_STAND);
            }
            advance();
            return readSum(open) && does(deed);
        }
    }

    /** What laws amount to, and what is done by them. */
    private static final class Law {
        static final int BOUND = 1000000;
        // Eight openings of at most five waiting numbers each, two of the clause itself and the last one: 43.
        static final int STACK = 64;
        static final int WEEK = 7;

        private final int[] stack;
        private int top;

        Law() {
            stack = new int[STACK];
        }

        /** Of the one, or of the glove, that the law is asked for. */
        int amount(int law, Script text, World world, int whom) {
            int clause = text == null ? NONE : text.lawAt(law);
            int value = clause == NONE ? plainAmount(law, world, whom) : reckoned(text, clause, world, whom);
            return Math.max(0, Math.min(value, law == Words.GROWS ? MOST_GROWTH : MOST_AMOUNT));
        }

        /** The people fined (bits); NONE if the day can't pass. */
        int passDay(World world, Script text) {
            if (!world.dayCanPass()) {
                return NONE;
            }
            int fined = 0;
            for (int one = 0; one < world.cells[World.PEOPLE]; one++) {
                int cold = world.at(World.COLD, one) + amount(Words.CHILL, text, world, one);
                world.change(World.COLD, one, Math.min(cold, MOST_NUMBER));
                int coins = world.at(World.COINS, one);
                boolean isLiable = coins > 0 && world.rightsOf(one) > 0;
                int fine = isLiable ? Math.min(coins, amount(Words.FINE, text, world, one)) : 0;
                if (fine > 0) {
                    world.change(World.COINS, one, coins - fine);
                    world.writeFine(one, fine);
                    fined |= 1 << one;
                }
            }
            for (int glove = 0; glove < world.cells[World.GLOVES] && world.cells[World.DAY] % WEEK == WEEK - 1; glove++) {
                if (world.isOpen(glove)) {
                    int work = world.at(World.WORK, glove) + amount(Words.GROWS, text, world, glove);
                    world.change(World.WORK, glove, Math.min(work, MOST_WORK));
                }
            }
            world.cells[World.DAY]++;
            world.cells[World.FROST] = world.draw() % 10;
            return fined;
        }

        /** For how much; NONE if it can't be. */
        int pawnOff(World world, Script text, int glove) {
            int pawn = world.isHow(glove, World.OWED) ? amount(Words.PAWN, text, world, glove) : 0;
            if (pawn < 1) {
                return NONE;
            }
            int holder = world.at(World.HELD, glove);
            world.change(World.COINS, holder, Math.min(world.at(World.COINS, holder) + pawn, MOST_NUMBER));
            world.change(World.HOW, glove, World.PAWNED);
            return pawn;
        }

        /** For how much; NONE if it can't be. */
        int buyBack(World world, Script text, int glove) {
            if (!world.isHow(glove, World.PAWNED)) {
                return NONE;
            }
            int pawn = amount(Words.PAWN, text, world, glove);
            int holder = world.at(World.HELD, glove);
            int coins = world.at(World.COINS, holder);
            if (coins < pawn) {
                return NONE;
            }
            world.change(World.COINS, holder, coins - pawn);
            world.change(World.HOW, glove, World.OWED);
            return pawn;
        }

        private static int plainAmount(int law, World world, int whom) {
            switch (law) {
                case Words.CHILL:
                    return world.cells[World.FROST] * world.bareHandsOf(whom);
                case Words.FINE:
                    return world.rightsOf(whom);
                case Words.GROWS:
                    return 1;
                case Words.PAWN:
                    return world.at(World.WORK, whom) / 2;
                default:
                    return 0;
            }
        }

        private void push(int value) {
            if (top >= 0 && top < STACK) {
                stack[top] = value;
                top++;
            }
        }

        private int pop() {
            if (top <= 0 || top > STACK) {
                return 0;
            }
            top--;
            return stack[top];
        }

        /** Leaps lead forward alone, so no cell is come to twice. */
        private int reckoned(Script text, int clause, World world, int whom) {
            top = 0;
            int stop = text.stopOf(clause);
            for (int i = text.startOf(clause); i < stop; i++) {
                int cell = text.cellAt(i);
                int deed = -1 - cell;
                if (cell >= 0) {
                    push(cell);
                } else if (Words.isName(deed)) {
                    push(named(deed, world, whom));
                } else if (deed == Words.THEN || deed == Words.ELSE) {
                    boolean leaps = deed == Words.ELSE || pop() == 0;
                    i = leaps ? Math.max(i + 1, text.cellAt(i + 1) - 1) : i + 1;
                } else if (deed == Words.NOT) {
                    push(1 - pop());
                } else if (deed == Words.NEGATE) {
                    push(-pop());
                } else if (deed == Words.LEFTS) {
                    push(world.leftsOf(pop()));
                } else {
                    int right = pop();
                    push(joined(deed, pop(), right));
                }
            }
            return pop();
        }

        private static int named(int name, World world, int whom) {
            switch (name) {
                case Words.DAY:
                    return world.cells[World.DAY];
                case Words.FROST:
                    return world.cells[World.FROST];
                case Words.WHO:
                    return whom;
                case Words.RIGHTS:
                    return world.rightsOf(whom);
                case Words.BARE:
                    return world.bareHandsOf(whom);
                default:
                    return world.at(cellsOf(name), whom);
            }
        }

        private static int cellsOf(int name) {
            switch (name) {
                case Words.HAND:
                    return World.HAND;
                case Words.COINS:
                    return World.COINS;
                case Words.COLD:
                    return World.COLD;
                case Words.WORK:
                    return World.WORK;
                case Words.LEATHER:
                    return World.LEATHER;
                case Words.SIZE:
                    return World.SIZE;
                case Words.MARK:
                    return World.MARK;
                case Words.FROM:
                    return World.FROM;
                case Words.BY:
                    return World.HELD;
                default:
                    return World.CELLS;
            }
        }

        private static int joined(int deed, int left, int right) {
            switch (deed) {
                case Words.PLUS:
                    return bounded((long) left + right);
                case Words.MINUS:
                    return bounded((long) left - right);
                case Words.TIMES:
                    return bounded((long) left * right);
                case Words.OVER:
                    return right == 0 ? 0 : left / right;
                case Words.COMMON:
                    return commonOf(left, right);
                case Words.OR:
                    return left | right;
                case Words.AND:
                    return left & right;
                default:
                    return holds(deed, left, right) ? 1 : 0;
            }
        }

        private static int bounded(long value) {
            return (int) Math.max(-BOUND, Math.min(value, BOUND));
        }

        private static boolean holds(int deed, int left, int right) {
            switch (deed) {
                case Words.LESS:
                    return left < right;
                case Words.AT_MOST:
                    return left <= right;
                case Words.MORE:
                    return left > right;
                case Words.AT_LEAST:
                    return left >= right;
                case Words.SAME:
                    return left == right;
                default:
                    return left != right;
            }
        }
    }

    /** Weddings of the people below m with the others; near hands come first, of like ones the lowest. */
    private static final class Weddings {
        private final int[] mates;
        private final int[] asked;

        Weddings() {
            mates = new int[MOST_PEOPLE];
            asked = new int[MOST_PEOPLE];
        }

        int mateOf(int one) {
            return one >= 0 && one < MOST_PEOPLE ? mates[one] : NONE;
        }

        void leaveAll() {
            for (int one = 0; one < MOST_PEOPLE; one++) {
                mates[one] = NONE;
                asked[one] = 0;
            }
        }

        void wedAll(World world, int m) {
            leaveAll();
            boolean isOver = false;
            // Nobody asks the same one twice, so there are fewer rounds than this.
            for (int i = 0; i < MOST_PEOPLE * MOST_PEOPLE && !isOver; i++) {
                isOver = true;
                for (int one = 0; one < m; one++) {
                    if (mateOf(one) == NONE && asksOn(world, m, one)) {
                        isOver = false;
                    }
                }
            }
        }

        private boolean asksOn(World world, int m, int one) {
            int other = nextToAsk(world, m, one);
            if (other < 0 || other >= MOST_PEOPLE || one < 0 || one >= MOST_PEOPLE) {
                return false;
            }
            asked[one] |= 1 << other;
            if (wouldRather(world, other, one)) {
                part(other);
                mates[one] = other;
                mates[other] = one;
            }
            return true;
        }

        private void part(int one) {
            int mate = mateOf(one);
            if (mate >= 0 && mate < MOST_PEOPLE) {
                mates[mate] = NONE;
            }
        }

        private int nextToAsk(World world, int m, int one) {
            int best = NONE;
            for (int other = m; other < world.cells[World.PEOPLE]; other++) {
                boolean isAsked = one >= 0 && one < MOST_PEOPLE && (asked[one] >> other & 1) == 1;
                if (!isAsked && (best == NONE || isAhead(world, one, other, best))) {
                    best = other;
                }
            }
            return best;
        }

        private static boolean isAhead(World world, int one, int a, int b) {
            int farA = Math.abs(world.at(World.HAND, one) - world.at(World.HAND, a));
            int farB = Math.abs(world.at(World.HAND, one) - world.at(World.HAND, b));
            return farA < farB || farA == farB && a < b;
        }

        private boolean wouldRather(World world, int one, int other) {
            int mate = mateOf(one);
            return mate == NONE || isAhead(world, one, other, mate);
        }

        /** Takes what a told row says of one; false if it can't be. Those not below m are aside. */
        boolean takes(World world, int m, int one, int mate) {
            if (one >= m || mate == NONE) {
                return true;
            }
            boolean isFree = mate >= m && world.hasOne(mate) && mateOf(mate) == NONE;
            if (!isFree || mate >= MOST_PEOPLE || one < 0 || one >= MOST_PEOPLE) {
                return false;
            }
            mates[one] = mate;
            mates[mate] = one;
            return true;
        }

        int restless(World world, int m) {
            int many = 0;
            for (int one = 0; one < m; one++) {
                for (int other = m; other < world.cells[World.PEOPLE]; other++) {
                    boolean isWed = mateOf(one) == other;
                    if (!isWed && wouldRather(world, one, other) && wouldRather(world, other, one)) {
                        many++;
                    }
                }
            }
            return many;
        }
    }

    /** The order of somebody's duties, and rounds of owed gloves. */
    private static final class Duties {
        final Row row;
        private int shortest;
        private int ringSet;

        Duties() {
            row = new Row(MOST_GLOVES);
        }

        void arrange(World world, Row prices, int one) {
            row.empty();
            for (int glove = 0; glove < world.cells[World.GLOVES]; glove++) {
                if (world.isOpen(glove) && world.at(World.FROM, glove) == one) {
                    arrangeIn(world, prices, glove);
                }
            }
        }

        /** Most price for the least work goes first; gloves come by number, so like ones stay so. */
        private void arrangeIn(World world, Row prices, int glove) {
            int place = row.many;
            row.put(glove);
            for (; place > 0 && isDearer(world, prices, glove, row.itemAt(place - 1)); place--) {
                row.change(place, row.itemAt(place - 1));
            }
            row.change(place, glove);
        }

        private static boolean isDearer(World world, Row prices, int a, int b) {
            return prices.itemAt(a) * world.at(World.WORK, b) > prices.itemAt(b) * world.at(World.WORK, a);
        }

        int cost(World world, Row prices) {
            int hours = 0;
            int sum = 0;
            for (int i = 0; i < row.many; i++) {
                hours += world.at(World.WORK, row.itemAt(i));
                sum += prices.itemAt(row.itemAt(i)) * hours;
            }
            return sum;
        }

        int shortestRing(World world) {
            shortest = MOST_PEOPLE + 1;
            ringSet = 0;
            for (int glove = 0; glove < world.cells[World.GLOVES]; glove++) {
                if (world.isHow(glove, World.OWED)) {
                    int from = world.at(World.FROM, glove);
                    seekRing(world, glove, world.at(World.HELD, glove), 1 << from, 1 << glove, 1);
                }
            }
            return ringSet;
        }

        /** Each round is come to once, from its lowest glove on. */
        private void seekRing(World world, int first, int at, int people, int set, int many) {
            if (many >= MOST_PEOPLE || many >= shortest) {
                return;
            }
            int goal = world.at(World.FROM, first);
            for (int glove = first + 1; glove < world.cells[World.GLOVES]; glove++) {
                boolean isNext = world.isHow(glove, World.OWED) && world.at(World.FROM, glove) == at;
                int holder = world.at(World.HELD, glove);
                if (isNext && holder == goal) {
                    noteRing(set | 1 << glove, many + 1);
                } else if (isNext && (people >> holder & 1) == 0) {
                    seekRing(world, first, holder, people | 1 << at, set | 1 << glove, many + 1);
                }
            }
        }

        private void noteRing(int set, int many) {
            if (many < shortest || many == shortest && set < ringSet) {
                shortest = many;
                ringSet = set;
            }
        }
    }

    /** Tries, estates, chests and odds: reckoned from what is told, with rows that are used again. */
    private static final class Puzzles {
        static final int SETS = MOST_SET + 1;
        static final int NEVER = 1000;
        static final int PARTS = 10;
        static final int MOST_FROSTS = 8;

        int firstTest;
        int upper;
        int lower;
        private final int[] fewest;
        private final int[] ways;
        private final int[] cold;
        private final int[] mild;

        Puzzles() {
            fewest = new int[SETS];
            ways = new int[SETS];
            cold = new int[MOST_FROSTS + 1];
            mild = new int[MOST_FROSTS + 1];
        }

        /** NEVER if they can't be told apart; firstTest is that of the whole set. */
        int fewestTries(Row tests, int people) {
            int many = NEVER;
            for (int set = 1; set <= people && set < SETS; set++) {
                // A test parts a set into lower ones, so those are known by now.
                if ((set & ~people) == 0) {
                    many = triesOf(tests, set);
                    fewest[set] = many;
                }
            }
            return many;
        }

        private int triesOf(Row tests, int set) {
            firstTest = NONE;
            if (Integer.bitCount(set) == 1) {
                return 0;
            }
            int least = NEVER;
            for (int test = 0; test < tests.many; test++) {
                int yes = set & tests.itemAt(test);
                int no = set & ~tests.itemAt(test);
                int worst = yes == 0 || no == 0 ? NEVER : 1 + Math.max(triesKnown(yes), triesKnown(no));
                if (worst < least) {
                    least = worst;
                    firstTest = test;
                }
            }
            return least;
        }

        private int triesKnown(int set) {
            return set >= 0 && set < SETS ? fewest[set] : NEVER;
        }

        /** The k-th's share of e, as upper by lower; all is reckoned in halves. */
        void share(Row claims, int e, int k) {
            int all = 0;
            for (int i = 0; i < claims.many; i++) {
                all += claims.itemAt(i);
            }
            if (2 * e <= all) {
                levelled(claims, 2 * e, k);
                lowestTerms(upper, 2 * lower);
            } else {
                levelled(claims, 2 * Math.max(0, all - e), k);
                lowestTerms(2 * lower * claims.itemAt(k) - upper, 2 * lower);
            }
        }

        /** What the k-th has of so much if all have alike much, but nobody more than its claim. */
        private void levelled(Row claims, int much, int k) {
            int settled = 0;
            int rest = much;
            int many = claims.many;
            for (int round = 0; round < claims.many; round++) {
                for (int i = 0; i < claims.many; i++) {
                    boolean isOpen = (settled >> i & 1) == 0;
                    if (isOpen && claims.itemAt(i) * many <= rest) {
                        settled |= 1 << i;
                        rest -= claims.itemAt(i);
                        many--;
                    }
                }
            }
            boolean isSettled = (settled >> k & 1) == 1;
            upper = isSettled ? claims.itemAt(k) : rest;
            lower = isSettled ? 1 : Math.max(1, many);
        }

        private void lowestTerms(int above, int below) {
            int common = Math.max(1, commonOf(above, below));
            upper = above / common;
            lower = below / common;
        }

        /** In how many ways all lefts of the chest are somebody's, the fixed one being the owner's (NONE: anybody's). */
        int waysOf(World world, Told told, int fixed, int owner) {
            int lefts = told.chestSizes.many;
            int sum = 0;
            for (int set = 0; set < SETS; set++) {
                ways[set] = set == 0 ? 1 : 0;
            }
            // A set of owners has as many lefts as ones in it: the next left goes to one that isn't.
            for (int set = 0; set < SETS; set++) {
                int left = Integer.bitCount(set);
                if (left == lefts) {
                    sum += ways[set];
                } else if (left < lefts && ways[set] > 0) {
                    giveNext(world, told, set, left == fixed ? owner : NONE);
                }
            }
            return sum;
        }

        private void giveNext(World world, Told told, int set, int owner) {
            int left = Integer.bitCount(set);
            int fitting = world.whomFits(told.chestSizes.itemAt(left), told.chestSlacks.itemAt(left)) & ~set;
            for (int one = 0; one < MOST_PEOPLE; one++) {
                boolean isHis = (fitting >> one & 1) == 1 && (owner == NONE || owner == one);
                int more = set | 1 << one;
                if (isHis && more >= 0 && more < SETS && set >= 0 && set < SETS) {
                    ways[more] += ways[set];
                }
            }
        }

        int sureOwner(World world, Told told, int k) {
            int all = waysOf(world, told, NONE, NONE);
            for (int one = 0; one < world.cells[World.PEOPLE] && all > 0; one++) {
                if (waysOf(world, told, k, one) == all) {
                    return one;
                }
            }
            return NONE;
        }

        /** Counted in parts of ten to the power of n, by how many days were cold and how the last one was. */
        void oddsOfFrosts(int c, int d, int n, int k) {
            for (int i = 0; i <= MOST_FROSTS; i++) {
                cold[i] = 0;
                mild[i] = i == 0 ? 1 : 0;
            }
            int whole = 1;
            for (int day = 0; day < n; day++) {
                for (int i = MOST_FROSTS; i >= 0; i--) {
                    int milder = cold[i] * (PARTS - c) + mild[i] * (PARTS - d);
                    cold[i] = i == 0 ? 0 : cold[i - 1] * c + mild[i - 1] * d;
                    mild[i] = milder;
                }
                whole *= PARTS;
            }
            if (k >= 0 && k <= MOST_FROSTS) {
                lowestTerms(cold[k] + mild[k], whole);
            }
        }
    }
}
