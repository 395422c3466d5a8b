/** A stacker for pallets of mixed orders. */
public final class PalletStack {
    private static final int FIELD_WIDTH = 12;
    private static final int FIELD_DEPTH = 10;
    private static final int FIELD_CELLS = FIELD_WIDTH * FIELD_DEPTH;
    private static final int MOST_LAYERS = 40;
    private static final int MOST_KINDS = 10;
    private static final int MOST_ITEMS = 60;
    private static final int MOST_LINES = 20;
    private static final int MOST_IN_LINE = 20;
    private static final int MOST_SIDE = 6;
    private static final int MOST_HEIGHT = 8;
    private static final int MOST_WEIGHT = 500;
    private static final int MOST_STRENGTH = 5000;
    private static final int MOST_LIMIT = 20000;
    private static final int COUNTS = 4;
    private static final int FACTS = 10;
    private static final int SUMS = 4;

    private static final int ALLOWED = 0;
    private static final int NOT_IN_FIELD = 1;
    private static final int TOO_HIGH = 2;
    private static final int NOT_ON_DECK = 3;
    private static final int TOO_LITTLE_GROUND = 4;
    private static final int CORNER_WITHOUT_GROUND = 5;
    private static final int TOO_MUCH_LOAD = 6;
    private static final int OVER_LIMIT = 7;
    private static final int NO_PLACE = -1;

    private final Kind[] kinds = new Kind[MOST_KINDS];
    private int kindCount = 0;

    private int greatestHeight = 20;
    private int support = 60;
    private int limit = 2000;
    private boolean hasCornerRule = false;

    private final Item[] items = new Item[MOST_ITEMS];
    private int cameCount = 0;
    private int onPalletCount = 0;
    private int weightOnPallet = 0;
    private final int[] tops = new int[FIELD_CELLS];

    // The box that is being considered; when it is put, it changes places with an unused item,
    // so that no call makes a new one.
    private Item trial = new Item();

    private final Line[] lines = new Line[MOST_LINES];
    private int lineCount = 0;

    public PalletStack() {
        for (int i = 0; i < MOST_ITEMS; i++) {
            items[i] = new Item();
        }
    }

    // ---- kinds and rules

    public int addKind(int width, int depth, int height, int weight, int strength, int how)
            throws IllegalArgumentException, IllegalStateException {
        if (!isWithin(width, 1, MOST_SIDE) || !isWithin(depth, 1, MOST_SIDE)
                || !isWithin(height, 1, MOST_HEIGHT) || !isWithin(weight, 1, MOST_WEIGHT)
                || !isWithin(strength, 0, MOST_STRENGTH) || !isWithin(how, 0, 3)) {
            throw new IllegalArgumentException();
        }
        if (kindCount < 0 || kindCount >= MOST_KINDS) {
            throw new IllegalStateException();
        }
        int number = kindCount;
        kinds[number] = new Kind(number, width, depth, height, weight, strength, how);
        kindCount = number + 1;
        return number;
    }

    public int setRules(int height, int support, int limit, boolean isCorners)
            throws IllegalArgumentException {
        if (!isWithin(height, 1, MOST_LAYERS) || !isWithin(support, 0, 100)
                || !isWithin(limit, 1, MOST_LIMIT)) {
            throw new IllegalArgumentException();
        }
        int before = greatestHeight;
        greatestHeight = height;
        this.support = support;
        this.limit = limit;
        hasCornerRule = isCorners;
        return before;
    }

    public int count(int what) throws IndexOutOfBoundsException {
        if (!isWithin(what, 0, COUNTS - 1)) {
            throw new IndexOutOfBoundsException();
        }
        return countOf(what);
    }

    // ---- items

    public int reason(int kind, int x, int y, boolean isTurned) throws IndexOutOfBoundsException {
        Kind wanted = kindOf(kind);
        if (wanted == null) {
            throw new IndexOutOfBoundsException();
        }
        return firstReason(wanted, x, y, isTurned);
    }

    public int put(int kind, int x, int y, boolean isTurned)
            throws IndexOutOfBoundsException, IllegalStateException {
        Kind wanted = kindOf(kind);
        if (wanted == null) {
            throw new IndexOutOfBoundsException();
        }
        if (cameCount >= MOST_ITEMS || firstReason(wanted, x, y, isTurned) != ALLOWED) {
            throw new IllegalStateException();
        }
        putTrial();
        return cameCount - 1;
    }

    public int takeOff(int item) throws IndexOutOfBoundsException, IllegalStateException {
        Item found = itemOf(item);
        if (found == null) {
            throw new IndexOutOfBoundsException();
        }
        if (standingOn(found) > 0) {
            throw new IllegalStateException();
        }
        found.isOnPallet = false;
        onPalletCount--;
        weightOnPallet -= found.weight;
        layAllTops();
        settleLoads();
        return onPalletCount;
    }

    public int item(int item, int what) throws IndexOutOfBoundsException {
        Item found = itemOf(item);
        if (found == null || !isWithin(what, 0, FACTS - 1)) {
            throw new IndexOutOfBoundsException();
        }
        return factOf(found, what);
    }

    public int top(int x, int y) throws IndexOutOfBoundsException {
        if (!isCell(x, y)) {
            throw new IndexOutOfBoundsException();
        }
        return topOf(x, y);
    }

    public int at(int x, int y, int layer) throws IndexOutOfBoundsException {
        if (!isCell(x, y) || !isWithin(layer, 0, MOST_LAYERS - 1)) {
            throw new IndexOutOfBoundsException();
        }
        for (int i = 0; i < cameCount; i++) {
            Item item = itemOf(i);
            if (item != null && item.covers(x, y) && item.bottom <= layer && layer < item.top) {
                return i;
            }
        }
        return -1;
    }

    public boolean restsOn(int a, int b) throws IndexOutOfBoundsException {
        Item upper = itemOf(a);
        Item lower = itemOf(b);
        if (upper == null || lower == null) {
            throw new IndexOutOfBoundsException();
        }
        return isCarriedBy(upper, lower);
    }

    // ---- places

    public int best(int kind) throws IndexOutOfBoundsException {
        Kind wanted = kindOf(kind);
        if (wanted == null) {
            throw new IndexOutOfBoundsException();
        }
        return bestPlace(wanted);
    }

    public int fill(int kind, int most) throws IndexOutOfBoundsException, IllegalArgumentException {
        Kind wanted = kindOf(kind);
        if (wanted == null) {
            throw new IndexOutOfBoundsException();
        }
        if (!isWithin(most, 1, MOST_ITEMS)) {
            throw new IllegalArgumentException();
        }
        for (int done = 0; done < most; done++) {
            if (!putAtBest(wanted)) {
                return done;
            }
        }
        return most;
    }

    // ---- orders

    public int addLine(int kind, int count)
            throws IndexOutOfBoundsException, IllegalArgumentException, IllegalStateException {
        Kind wanted = kindOf(kind);
        if (wanted == null) {
            throw new IndexOutOfBoundsException();
        }
        if (!isWithin(count, 1, MOST_IN_LINE)) {
            throw new IllegalArgumentException();
        }
        if (lineCount < 0 || lineCount >= MOST_LINES) {
            throw new IllegalStateException();
        }
        int number = lineCount;
        lines[number] = new Line(wanted, count);
        lineCount = number + 1;
        return number;
    }

    public int stack() {
        for (int i = 0; i < lineCount; i++) {
            Line line = lineOf(i);
            if (line != null) {
                line.isAside = false;
            }
        }
        int done = 0;
        // Each step puts a box or puts a line aside, so that there are never more.
        for (int step = 0; step < MOST_ITEMS + MOST_LINES; step++) {
            Line line = nextLine();
            if (line == null) {
                return done;
            }
            if (putAtBest(line.kind)) {
                line.count--;
                done++;
            } else {
                line.isAside = true;
            }
        }
        return done;
    }

    public int line(int line, boolean isCount) throws IndexOutOfBoundsException {
        Line found = lineOf(line);
        if (found == null) {
            throw new IndexOutOfBoundsException();
        }
        return isCount ? found.count : found.kind.number;
    }

    public int clear() {
        int before = onPalletCount;
        for (int i = 0; i < cameCount; i++) {
            Item item = itemOf(i);
            if (item != null) {
                item.isOnPallet = false;
            }
        }
        cameCount = 0;
        onPalletCount = 0;
        weightOnPallet = 0;
        lineCount = 0;
        layAllTops();
        return before;
    }

    // ---- what is told

    public int sum(int what) throws IndexOutOfBoundsException {
        if (!isWithin(what, 0, SUMS - 1)) {
            throw new IndexOutOfBoundsException();
        }
        return sumOf(what);
    }

    public double middle(boolean isY) {
        int turning = 0;
        for (int i = 0; i < cameCount; i++) {
            Item item = itemOf(i);
            if (item != null) {
                turning += item.weight * (isY ? 2 * item.y + item.depth : 2 * item.x + item.width);
            }
        }
        return weightOnPallet <= 0 ? 0.0 : (double) turning / (double) (2 * weightOnPallet);
    }

    public double filled() {
        int covered = 0;
        for (int i = 0; i < cameCount; i++) {
            Item item = itemOf(i);
            if (item != null) {
                covered += item.cells() * (item.top - item.bottom);
            }
        }
        int top = greatestTop();
        return top <= 0 ? 0.0 : (double) covered / (double) (FIELD_CELLS * top);
    }

    public long digest() {
        long sum = 349;
        for (int what = 0; what < COUNTS; what++) {
            sum = sum * 31 + countOf(what);
        }
        for (int i = 0; i < cameCount; i++) {
            Item item = itemOf(i);
            if (item != null) {
                sum = withFacts(sum * 31 + i, item);
            }
        }
        for (int i = 0; i < lineCount; i++) {
            Line line = lineOf(i);
            if (line != null) {
                sum = (sum * 31 + line.kind.number) * 31 + line.count;
            }
        }
        for (int what = 0; what < SUMS; what++) {
            sum = sum * 31 + sumOf(what);
        }
        return sum;
    }

    // ---- looking up

    private static boolean isWithin(int number, int least, int greatest) {
        return number >= least && number <= greatest;
    }

    private static boolean isCell(int x, int y) {
        return isWithin(x, 0, FIELD_WIDTH - 1) && isWithin(y, 0, FIELD_DEPTH - 1);
    }

    private Kind kindOf(int number) {
        return isWithin(number, 0, MOST_KINDS - 1) && number < kindCount ? kinds[number] : null;
    }

    /** The item of this number, if it is on the pallet; otherwise null. */
    private Item itemOf(int number) {
        if (number < 0 || number >= MOST_ITEMS || number >= cameCount) {
            return null;
        }
        Item item = items[number];
        return item != null && item.isOnPallet ? item : null;
    }

    private Line lineOf(int number) {
        return isWithin(number, 0, MOST_LINES - 1) && number < lineCount ? lines[number] : null;
    }

    private int topOf(int x, int y) {
        int cell = y * FIELD_WIDTH + x;
        return cell >= 0 && cell < FIELD_CELLS ? tops[cell] : 0;
    }

    private int countOf(int what) {
        switch (what) {
            case 0:
                return kindCount;
            case 1:
                return onPalletCount;
            case 2:
                return cameCount;
            default:
                return lineCount;
        }
    }

    private int factOf(Item item, int what) {
        switch (what) {
            case 0:
                return item.kind;
            case 1:
                return item.x;
            case 2:
                return item.y;
            case 3:
                return item.bottom;
            case 4:
                return item.top;
            case 5:
                return item.isTurned ? 1 : 0;
            case 6:
                return item.load;
            case 7:
                return standingOn(item);
            case 8:
                return item.supportCount;
            default:
                return item.ground;
        }
    }

    private int sumOf(int what) {
        switch (what) {
            case 0:
                return weightOnPallet;
            case 1:
                return greatestTop();
            case 2:
                return greatestLoad();
            default:
                return coveredDeck();
        }
    }

    private long withFacts(long sum, Item item) {
        long next = sum;
        for (int what = 0; what < FACTS; what++) {
            next = next * 31 + factOf(item, what);
        }
        return next;
    }

    private int greatestTop() {
        int greatest = 0;
        for (int i = 0; i < cameCount; i++) {
            Item item = itemOf(i);
            if (item != null && item.top > greatest) {
                greatest = item.top;
            }
        }
        return greatest;
    }

    private int greatestLoad() {
        int greatest = 0;
        for (int i = 0; i < cameCount; i++) {
            Item item = itemOf(i);
            if (item != null && item.load > greatest) {
                greatest = item.load;
            }
        }
        return greatest;
    }

    private int coveredDeck() {
        int covered = 0;
        for (int i = 0; i < cameCount; i++) {
            Item item = itemOf(i);
            if (item != null && item.bottom == 0) {
                covered += item.cells();
            }
        }
        return covered;
    }

    /** How many items stand on this one, not by way of others. */
    private int standingOn(Item lower) {
        int standing = 0;
        for (int i = 0; i < cameCount; i++) {
            Item item = itemOf(i);
            if (item != null && item.standsOn(lower)) {
                standing++;
            }
        }
        return standing;
    }

    // ---- from above

    // Boxes are let down from above, so that an item has a greater number than all that carry it:
    // going through the numbers downwards, each item is seen before those on which it stands.

    private boolean isCarriedBy(Item upper, Item lower) {
        for (int i = 0; i < cameCount; i++) {
            Item item = itemOf(i);
            if (item != null) {
                item.isReached = false;
            }
        }
        upper.reachSupports();
        for (int i = cameCount - 1; i >= 0; i--) {
            Item item = itemOf(i);
            if (item != null && item.isReached) {
                item.reachSupports();
            }
        }
        return lower.isReached;
    }

    private void forgetNextLoads() {
        for (int i = 0; i < cameCount; i++) {
            Item item = itemOf(i);
            if (item != null) {
                item.nextLoad = 0;
            }
        }
    }

    private void settleLoads() {
        forgetNextLoads();
        for (int i = cameCount - 1; i >= 0; i--) {
            Item item = itemOf(i);
            if (item != null) {
                item.load = item.nextLoad;
                item.passLoadDown();
            }
        }
    }

    /** Whether an item would bear too much, if the trial stood where it is. */
    private boolean isTooMuchLoad() {
        forgetNextLoads();
        trial.nextLoad = 0;
        trial.passLoadDown();
        for (int i = cameCount - 1; i >= 0; i--) {
            Item item = itemOf(i);
            if (item != null && item.nextLoad > item.strength) {
                return true;
            }
            if (item != null) {
                item.passLoadDown();
            }
        }
        return false;
    }

    // ---- places for a box

    private static boolean isInField(Kind kind, int x, int y, boolean isTurned) {
        if (isTurned && !kind.canTurn) {
            return false;
        }
        int width = isTurned ? kind.depth : kind.width;
        int depth = isTurned ? kind.width : kind.depth;
        return isWithin(x, 0, FIELD_WIDTH - width) && isWithin(y, 0, FIELD_DEPTH - depth);
    }

    /** Lets the trial down at a place in the field, and finds its bottom and ground. */
    private void letDown(Kind kind, int x, int y, boolean isTurned) {
        trial.shape(kind, isTurned);
        trial.x = x;
        trial.y = y;
        int bottom = 0;
        int ground = 0;
        for (int cellY = y; cellY < y + trial.depth; cellY++) {
            for (int cellX = x; cellX < x + trial.width; cellX++) {
                int top = topOf(cellX, cellY);
                if (top > bottom) {
                    bottom = top;
                    ground = 1;
                } else if (top == bottom) {
                    ground++;
                }
            }
        }
        trial.bottom = bottom;
        trial.top = bottom + kind.height;
        trial.ground = ground;
    }

    private void findSupports() {
        trial.supportCount = 0;
        for (int i = 0; i < cameCount; i++) {
            Item item = itemOf(i);
            if (item != null && item.top == trial.bottom) {
                trial.addSupport(item, trial.cellsInCommon(item));
            }
        }
    }

    private boolean isGround(int x, int y) {
        return topOf(x, y) == trial.bottom;
    }

    private boolean hasGroundAtCorners() {
        int lastX = trial.x + trial.width - 1;
        int lastY = trial.y + trial.depth - 1;
        return isGround(trial.x, trial.y) && isGround(lastX, trial.y)
                && isGround(trial.x, lastY) && isGround(lastX, lastY);
    }

    /** The first rule against the trial where it was let down. */
    private int brokenRule(Kind kind) {
        if (trial.top > greatestHeight) {
            return TOO_HIGH;
        }
        if (kind.needsDeck && trial.bottom > 0) {
            return NOT_ON_DECK;
        }
        if (trial.ground * 100 < trial.cells() * support) {
            return TOO_LITTLE_GROUND;
        }
        if (hasCornerRule && trial.bottom > 0 && !hasGroundAtCorners()) {
            return CORNER_WITHOUT_GROUND;
        }
        findSupports();
        if (isTooMuchLoad()) {
            return TOO_MUCH_LOAD;
        }
        return weightOnPallet + trial.weight > limit ? OVER_LIMIT : ALLOWED;
    }

    private int firstReason(Kind kind, int x, int y, boolean isTurned) {
        if (!isInField(kind, x, y, isTurned)) {
            return NOT_IN_FIELD;
        }
        letDown(kind, x, y, isTurned);
        return brokenRule(kind);
    }

    private int bestPlace(Kind kind) {
        int place = NO_PLACE;
        int leastBottom = 0;
        int mostGround = 0;
        for (int code = 0; code < 2 * FIELD_CELLS; code++) {
            if (!isInField(kind, xOf(code), yOf(code), isTurnedIn(code))) {
                continue;
            }
            letDown(kind, xOf(code), yOf(code), isTurnedIn(code));
            boolean isBetter = place == NO_PLACE || trial.bottom < leastBottom
                    || (trial.bottom == leastBottom && trial.ground > mostGround);
            // The rules are dear to test, so only what would be better is tested.
            if (isBetter && brokenRule(kind) == ALLOWED) {
                place = code;
                leastBottom = trial.bottom;
                mostGround = trial.ground;
                if (leastBottom == 0) {
                    // All its cells are ground on the deck: nothing later is better.
                    return place;
                }
            }
        }
        return place;
    }

    private static int xOf(int code) {
        return code / 2 % FIELD_WIDTH;
    }

    private static int yOf(int code) {
        return code / 2 / FIELD_WIDTH;
    }

    private static boolean isTurnedIn(int code) {
        return code % 2 == 1;
    }

    // ---- putting

    private boolean putAtBest(Kind kind) {
        if (cameCount >= MOST_ITEMS) {
            return false;
        }
        int place = bestPlace(kind);
        if (place == NO_PLACE) {
            return false;
        }
        // The search has moved the trial on to other places.
        letDown(kind, xOf(place), yOf(place), isTurnedIn(place));
        putTrial();
        return true;
    }

    /** Makes the trial an item where it was let down; whoever calls has seen that it is allowed. */
    private void putTrial() {
        int number = cameCount;
        Item unused = isWithin(number, 0, MOST_ITEMS - 1) ? items[number] : null;
        if (unused == null) {
            return;
        }
        findSupports();
        Item item = trial;
        trial = unused;
        items[number] = item;
        item.isOnPallet = true;
        cameCount = number + 1;
        onPalletCount++;
        weightOnPallet += item.weight;
        layTop(item);
        settleLoads();
    }

    private void layTop(Item item) {
        for (int y = item.y; y < item.y + item.depth; y++) {
            for (int x = item.x; x < item.x + item.width; x++) {
                if (isCell(x, y) && tops[y * FIELD_WIDTH + x] < item.top) {
                    tops[y * FIELD_WIDTH + x] = item.top;
                }
            }
        }
    }

    private void layAllTops() {
        for (int i = 0; i < FIELD_CELLS; i++) {
            tops[i] = 0;
        }
        for (int i = 0; i < cameCount; i++) {
            Item item = itemOf(i);
            if (item != null) {
                layTop(item);
            }
        }
    }

    // ---- lines of an order

    /** The line of which a box comes next; null if all are empty or aside. */
    private Line nextLine() {
        Line next = null;
        for (int i = 0; i < lineCount; i++) {
            Line line = lineOf(i);
            if (line != null && line.count > 0 && !line.isAside
                    && (next == null || line.kind.comesBefore(next.kind))) {
                next = line;
            }
        }
        return next;
    }

    private static final class Kind {
        final int number;
        final int width;
        final int depth;
        final int height;
        final int weight;
        final int strength;
        final boolean canTurn;
        final boolean needsDeck;

        Kind(int number, int width, int depth, int height, int weight, int strength, int how) {
            this.number = number;
            this.width = width;
            this.depth = depth;
            this.height = height;
            this.weight = weight;
            this.strength = strength;
            canTurn = how == 1 || how == 3;
            needsDeck = how == 2 || how == 3;
        }

        boolean comesBefore(Kind other) {
            if (needsDeck != other.needsDeck) {
                return needsDeck;
            }
            if (strength != other.strength) {
                return strength > other.strength;
            }
            return weight > other.weight;
        }
    }

    private static final class Line {
        final Kind kind;
        int count;
        boolean isAside = false;

        Line(Kind kind, int count) {
            this.kind = kind;
            this.count = count;
        }
    }

    private static final class Item {
        // A box covers at most so many cells, each of them in at most one item under it.
        private static final int MOST_SUPPORTS = MOST_SIDE * MOST_SIDE;

        int kind = 0;
        int weight = 0;
        int strength = 0;
        boolean isTurned = false;
        int width = 0;
        int depth = 0;
        int x = 0;
        int y = 0;
        int bottom = 0;
        int top = 0;
        int ground = 0;
        int load = 0;
        int nextLoad = 0;
        boolean isOnPallet = false;
        boolean isReached = false;

        // Nothing comes under an item, and what carries it is not taken off:
        // its ground and its supports stay as they were when it was put.
        int supportCount = 0;
        final Item[] supports = new Item[MOST_SUPPORTS];
        final int[] supportCells = new int[MOST_SUPPORTS];

        void shape(Kind of, boolean turned) {
            kind = of.number;
            weight = of.weight;
            strength = of.strength;
            isTurned = turned;
            width = turned ? of.depth : of.width;
            depth = turned ? of.width : of.depth;
        }

        int cells() {
            return width * depth;
        }

        boolean covers(int cellX, int cellY) {
            return cellX >= x && cellX < x + width && cellY >= y && cellY < y + depth;
        }

        int cellsInCommon(Item other) {
            int inX = Math.min(x + width, other.x + other.width) - Math.max(x, other.x);
            int inY = Math.min(y + depth, other.y + other.depth) - Math.max(y, other.y);
            return inX > 0 && inY > 0 ? inX * inY : 0;
        }

        boolean standsOn(Item other) {
            return bottom == other.top && cellsInCommon(other) > 0;
        }

        void addSupport(Item other, int cells) {
            if (cells > 0 && supportCount >= 0 && supportCount < MOST_SUPPORTS) {
                supports[supportCount] = other;
                supportCells[supportCount] = cells;
                supportCount++;
            }
        }

        void passLoadDown() {
            for (int i = 0; i < supportCount && i < MOST_SUPPORTS; i++) {
                Item lower = supports[i];
                if (lower != null && ground > 0) {
                    lower.nextLoad += (weight + nextLoad) * supportCells[i] / ground;
                }
            }
        }

        void reachSupports() {
            for (int i = 0; i < supportCount && i < MOST_SUPPORTS; i++) {
                Item lower = supports[i];
                if (lower != null) {
                    lower.isReached = true;
                }
            }
        }
    }
}
