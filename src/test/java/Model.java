import java.util.ArrayList;
import java.util.Comparator;
import java.util.List;
import java.util.TreeMap;

/** The document once more, in its plainest form and without a thought to cost: what PalletStack is compared with. */
final class Model {
    record Kind(int width, int depth, int height, int weight, int strength, int how) {
        boolean turns() {
            return how == 1 || how == 3;
        }

        boolean deckOnly() {
            return how >= 2;
        }
    }

    record Box(int kindNumber, Kind kind, int x, int y, int bottom, boolean turned) {
        int width() {
            return turned ? kind.depth : kind.width;
        }

        int depth() {
            return turned ? kind.width : kind.depth;
        }

        int top() {
            return bottom + kind.height;
        }

        boolean covers(int cx, int cy) {
            return x <= cx && cx < x + width() && y <= cy && cy < y + depth();
        }

        int common(Box other) {
            int cells = 0;
            for (int cx = 0; cx < 12; cx++) {
                for (int cy = 0; cy < 10; cy++) {
                    cells += covers(cx, cy) && other.covers(cx, cy) ? 1 : 0;
                }
            }
            return cells;
        }

        boolean standsOn(Box other) {
            return bottom == other.top() && common(other) > 0;
        }
    }

    private static final class Line {
        int kind;
        int count;
        boolean aside;
    }

    private final List<Kind> kinds = new ArrayList<>();
    private TreeMap<Integer, Box> boxes = new TreeMap<>();
    private final List<Line> lines = new ArrayList<>();
    private int came = 0;
    private int height = 20;
    private int support = 60;
    private int limit = 2000;
    private boolean corners = false;

    private static void index(boolean holds) {
        if (!holds) {
            throw new IndexOutOfBoundsException();
        }
    }

    private static void argument(boolean holds) {
        if (!holds) {
            throw new IllegalArgumentException();
        }
    }

    private static void state(boolean holds) {
        if (!holds) {
            throw new IllegalStateException();
        }
    }

    private static boolean in(int a, int least, int most) {
        return least <= a && a <= most;
    }

    int addKind(int width, int depth, int tall, int weight, int strength, int how) {
        argument(in(width, 1, 6) && in(depth, 1, 6) && in(tall, 1, 8) && in(weight, 1, 500)
                && in(strength, 0, 5000) && in(how, 0, 3));
        state(kinds.size() < 10);
        kinds.add(new Kind(width, depth, tall, weight, strength, how));
        return kinds.size() - 1;
    }

    int setRules(int newHeight, int newSupport, int newLimit, boolean isCorners) {
        argument(in(newHeight, 1, 40) && in(newSupport, 0, 100) && in(newLimit, 1, 20000));
        int before = height;
        height = newHeight;
        support = newSupport;
        limit = newLimit;
        corners = isCorners;
        return before;
    }

    int count(int what) {
        index(in(what, 0, 3));
        return new int[] {kinds.size(), boxes.size(), came, lines.size()}[what];
    }

    private Box letDown(int kind, int x, int y, boolean turned) {
        Box flat = new Box(kind, kinds.get(kind), x, y, 0, turned);
        int bottom = 0;
        for (Box box : boxes.values()) {
            if (box.common(flat) > 0) {
                bottom = Math.max(bottom, box.top());
            }
        }
        return new Box(kind, kinds.get(kind), x, y, bottom, turned);
    }

    private boolean isGround(Box box, int x, int y) {
        if (box.bottom == 0) {
            return true;
        }
        for (Box other : boxes.values()) {
            if (box.standsOn(other) && other.covers(x, y)) {
                return true;
            }
        }
        return false;
    }

    private int ground(Box box) {
        int cells = 0;
        for (int x = box.x; x < box.x + box.width(); x++) {
            for (int y = box.y; y < box.y + box.depth(); y++) {
                cells += isGround(box, x, y) ? 1 : 0;
            }
        }
        return cells;
    }

    private long load(Box box) {
        long load = 0;
        for (Box other : boxes.values()) {
            if (other.standsOn(box)) {
                load += (other.kind.weight + load(other)) * other.common(box) / ground(other);
            }
        }
        return load;
    }

    int reason(int kind, int x, int y, boolean turned) {
        index(in(kind, 0, kinds.size() - 1));
        Kind k = kinds.get(kind);
        if (turned && !k.turns()) {
            return 1;
        }
        long width = turned ? k.depth : k.width;
        long depth = turned ? k.width : k.depth;
        if (x < 0 || y < 0 || x + width > 12 || y + depth > 10) {
            return 1;
        }
        Box box = letDown(kind, x, y, turned);
        if (box.top() > height) {
            return 2;
        }
        if (k.deckOnly() && box.bottom != 0) {
            return 3;
        }
        if (ground(box) * 100 < width * depth * support) {
            return 4;
        }
        int lastX = x + (int) width - 1;
        int lastY = y + (int) depth - 1;
        if (corners && box.bottom > 0 && !(isGround(box, x, y) && isGround(box, lastX, y)
                && isGround(box, x, lastY) && isGround(box, lastX, lastY))) {
            return 5;
        }
        return reasonOfWeights(box);
    }

    private int reasonOfWeights(Box box) {
        TreeMap<Integer, Box> before = boxes;
        boxes = new TreeMap<>(before);
        boxes.put(1000, box);
        int found = 0;
        for (Box other : boxes.values()) {
            if (load(other) > other.kind.strength) {
                found = 6;
            }
        }
        if (found == 0 && sum(0) > limit) {
            found = 7;
        }
        boxes = before;
        return found;
    }

    int put(int kind, int x, int y, boolean turned) {
        index(in(kind, 0, kinds.size() - 1));
        state(reason(kind, x, y, turned) == 0 && came < 60);
        boxes.put(came, letDown(kind, x, y, turned));
        return came++;
    }

    int takeOff(int item) {
        index(boxes.containsKey(item));
        state(item(item, 7) == 0);
        boxes.remove(item);
        return boxes.size();
    }

    int item(int item, int what) {
        index(boxes.containsKey(item) && in(what, 0, 9));
        Box box = boxes.get(item);
        int above = 0;
        int below = 0;
        for (Box other : boxes.values()) {
            above += other.standsOn(box) ? 1 : 0;
            below += box.standsOn(other) ? 1 : 0;
        }
        return new int[] {box.kindNumber, box.x, box.y, box.bottom, box.top(), box.turned ? 1 : 0,
            (int) load(box), above, below, ground(box)}[what];
    }

    int top(int x, int y) {
        index(in(x, 0, 11) && in(y, 0, 9));
        int top = 0;
        for (Box box : boxes.values()) {
            top = Math.max(top, box.covers(x, y) ? box.top() : 0);
        }
        return top;
    }

    int at(int x, int y, int layer) {
        index(in(x, 0, 11) && in(y, 0, 9) && in(layer, 0, 39));
        for (int number : boxes.keySet()) {
            Box box = boxes.get(number);
            if (box.covers(x, y) && in(layer, box.bottom, box.top() - 1)) {
                return number;
            }
        }
        return -1;
    }

    boolean restsOn(int a, int b) {
        index(boxes.containsKey(a) && boxes.containsKey(b));
        for (int between : boxes.keySet()) {
            if (boxes.get(a).standsOn(boxes.get(between)) && (between == b || restsOn(between, b))) {
                return true;
            }
        }
        return false;
    }

    int best(int kind) {
        index(in(kind, 0, kinds.size() - 1));
        List<int[]> places = new ArrayList<>();
        for (int turned = 0; turned < 2; turned++) {
            for (int x = 0; x < 12; x++) {
                for (int y = 0; y < 10; y++) {
                    if (reason(kind, x, y, turned == 1) == 0) {
                        Box box = letDown(kind, x, y, turned == 1);
                        places.add(new int[] {box.bottom, -ground(box), y, x, turned});
                    }
                }
            }
        }
        Comparator<int[]> order = Comparator.comparingInt((int[] p) -> p[0]).thenComparingInt(p -> p[1])
                .thenComparingInt(p -> p[2]).thenComparingInt(p -> p[3]).thenComparingInt(p -> p[4]);
        int[] best = places.stream().min(order).orElse(null);
        return best == null ? -1 : 2 * (12 * best[2] + best[3]) + best[4];
    }

    private boolean putBest(int kind) {
        int best = came < 60 ? best(kind) : -1;
        if (best < 0) {
            return false;
        }
        put(kind, best / 2 % 12, best / 24, best % 2 == 1);
        return true;
    }

    int fill(int kind, int most) {
        index(in(kind, 0, kinds.size() - 1));
        argument(in(most, 1, 60));
        int done = 0;
        while (done < most && putBest(kind)) {
            done++;
        }
        return done;
    }

    int addLine(int kind, int count) {
        index(in(kind, 0, kinds.size() - 1));
        argument(in(count, 1, 20));
        state(lines.size() < 20);
        Line line = new Line();
        line.kind = kind;
        line.count = count;
        lines.add(line);
        return lines.size() - 1;
    }

    int stack() {
        for (Line line : lines) {
            line.aside = false;
        }
        Comparator<Line> order = Comparator.comparing((Line l) -> !kinds.get(l.kind).deckOnly())
                .thenComparing(l -> -kinds.get(l.kind).strength).thenComparing(l -> -kinds.get(l.kind).weight)
                .thenComparing(lines::indexOf);
        int done = 0;
        while (true) {
            Line next = lines.stream().filter(l -> l.count > 0 && !l.aside).min(order).orElse(null);
            if (next == null) {
                return done;
            }
            if (putBest(next.kind)) {
                next.count--;
                done++;
            } else {
                next.aside = true;
            }
        }
    }

    int line(int line, boolean isCount) {
        index(in(line, 0, lines.size() - 1));
        return isCount ? lines.get(line).count : lines.get(line).kind;
    }

    int clear() {
        int before = boxes.size();
        boxes.clear();
        lines.clear();
        came = 0;
        return before;
    }

    int sum(int what) {
        index(in(what, 0, 3));
        int[] sums = new int[4];
        for (Box box : boxes.values()) {
            sums[0] += box.kind.weight;
            sums[1] = Math.max(sums[1], box.top());
            sums[2] = Math.max(sums[2], what == 2 ? (int) load(box) : 0);
            sums[3] += box.bottom == 0 ? box.width() * box.depth() : 0;
        }
        return sums[what];
    }

    double middle(boolean isY) {
        double turning = 0;
        for (Box box : boxes.values()) {
            turning += box.kind.weight * (isY ? 2.0 * box.y + box.depth() : 2.0 * box.x + box.width());
        }
        return boxes.isEmpty() ? 0 : turning / (2.0 * sum(0));
    }

    double filled() {
        double covered = 0;
        for (int x = 0; x < 12; x++) {
            for (int y = 0; y < 10; y++) {
                for (int layer = 0; layer < 40; layer++) {
                    covered += at(x, y, layer) >= 0 ? 1 : 0;
                }
            }
        }
        return boxes.isEmpty() ? 0 : covered / (120.0 * sum(1));
    }

    long digest() {
        List<Integer> numbers = new ArrayList<>();
        for (int what = 0; what < 4; what++) {
            numbers.add(count(what));
        }
        for (int number : boxes.keySet()) {
            numbers.add(number);
            for (int what = 0; what < 10; what++) {
                numbers.add(item(number, what));
            }
        }
        for (int line = 0; line < lines.size(); line++) {
            numbers.add(line(line, false));
            numbers.add(line(line, true));
        }
        for (int what = 0; what < 4; what++) {
            numbers.add(sum(what));
        }
        long sum = 349;
        for (int number : numbers) {
            sum = sum * 31 + number;
        }
        return sum;
    }
}
