/** Ordinary inputs, named edges and wrong inputs of each promise, worked out by hand from the document. */
public final class PromiseTest {
    private static final Class<IllegalArgumentException> ARGUMENT = IllegalArgumentException.class;
    private static final Class<IllegalStateException> STATE = IllegalStateException.class;
    private static final Class<IndexOutOfBoundsException> INDEX = IndexOutOfBoundsException.class;
    private static final int LEAST = Integer.MIN_VALUE;
    private static final int GREATEST = Integer.MAX_VALUE;

    public static void main(String[] args) {
        promise1NewObject();
        promise1FirstRules();
        promise2AddKind();
        promise3SetRules();
        promise4Count();
        promise5Reason();
        promise5Support();
        promise5Corners();
        promise5Loads();
        promise5OrderOfReasons();
        promise6Put();
        promise7TakeOff();
        promise8Item();
        promise8Loads();
        promise9Top();
        promise10At();
        promise11RestsOn();
        promise12Best();
        promise12BestTurned();
        promise13Fill();
        promise13FillAboveRefusedPlaces();
        promise14AddLine();
        promise15StackOrder();
        promise15PutAside();
        promise15AsideStaysAside();
        promise15LinesAreAsideNotKinds();
        promise16Line();
        promise17Clear();
        promise18Sum();
        promise19Middle();
        promise20Filled();
        promise21Digest();
        Checks.end();
    }

    /** A stacker whose kinds are given as rows of what addKind takes. */
    private static PalletStack with(int[]... kinds) {
        PalletStack s = new PalletStack();
        for (int[] k : kinds) {
            s.addKind(k[0], k[1], k[2], k[3], k[4], k[5]);
        }
        return s;
    }

    private static int[] kind(int width, int depth, int height, int weight, int strength, int how) {
        return new int[] {width, depth, height, weight, strength, how};
    }

    private static void facts(String what, PalletStack s, int item, int... due) {
        for (int i = 0; i < due.length; i++) {
            Checks.same(what + ": item(" + item + ", " + i + ")", s.item(item, i), due[i]);
        }
    }

    private static void promise1NewObject() {
        PalletStack s = new PalletStack();
        for (int what = 0; what < 4; what++) {
            Checks.same("new: count " + what, s.count(what), 0);
            Checks.same("new: sum " + what, s.sum(what), 0);
        }
        Checks.same("new: top", s.top(11, 9), 0);
        Checks.same("new: at", s.at(0, 0, 0), -1);
        Checks.same("new: middle", s.middle(false), 0.0);
        Checks.same("new: filled", s.filled(), 0.0);
        Checks.same("new: stack", s.stack(), 0);
        Checks.same("new: clear", s.clear(), 0);
        PalletStack other = with(kind(1, 1, 1, 1, 1, 0));
        other.put(0, 0, 0, false);
        Checks.same("objects share nothing", s.count(0) + s.count(1), 0);
    }

    private static void promise1FirstRules() {
        PalletStack s = with(kind(5, 1, 8, 500, 5000, 0), kind(1, 1, 4, 500, 5000, 0), kind(1, 1, 5, 1, 0, 0),
                kind(1, 1, 1, 1, 0, 0), kind(3, 1, 8, 1, 5000, 0));
        s.put(0, 0, 0, false);
        s.put(0, 0, 0, false);
        Checks.same("a top at 20", s.reason(1, 0, 0, false), 0);
        Checks.same("a top at 21", s.reason(2, 0, 0, false), 2);
        s.put(0, 0, 2, false);
        Checks.same("2000 together", s.reason(1, 0, 4, false), 0);
        s.put(1, 0, 4, false);
        Checks.same("2001 together", s.reason(3, 6, 4, false), 7);
        s.clear();
        s.put(4, 0, 0, false);
        Checks.same("ground of 60 and no corners", s.reason(0, 0, 0, false), 0);
        Checks.same("ground of 40", s.reason(0, 1, 0, false), 4);
        PalletStack ground = with(kind(6, 2, 1, 1, 0, 0), kind(6, 1, 1, 1, 5000, 0), kind(1, 1, 1, 1, 5000, 0));
        ground.put(1, 0, 0, false);
        ground.put(2, 0, 1, false);
        Checks.same("ground of 7 in 12 cells is less than 60", ground.reason(0, 0, 0, false), 4);
        ground.put(2, 1, 1, false);
        Checks.same("ground of 8 in 12 cells is more than 60", ground.reason(0, 0, 0, false), 0);
    }

    private static void promise2AddKind() {
        PalletStack s = new PalletStack();
        int[][] wrong = {
            kind(0, 1, 1, 1, 0, 0), kind(7, 1, 1, 1, 0, 0), kind(1, 0, 1, 1, 0, 0), kind(1, 7, 1, 1, 0, 0),
            kind(1, 1, 0, 1, 0, 0), kind(1, 1, 9, 1, 0, 0), kind(1, 1, 1, 0, 0, 0), kind(1, 1, 1, 501, 0, 0),
            kind(1, 1, 1, 1, -1, 0), kind(1, 1, 1, 1, 5001, 0), kind(1, 1, 1, 1, 0, -1), kind(1, 1, 1, 1, 0, 4),
            kind(LEAST, 1, 1, 1, 0, 0), kind(1, 1, 1, GREATEST, 0, 0)};
        for (int[] k : wrong) {
            Checks.fails("addKind wrong", s, ARGUMENT, () -> s.addKind(k[0], k[1], k[2], k[3], k[4], k[5]));
        }
        Checks.same("addKind greatest", s.addKind(6, 6, 8, 500, 5000, 3), 0);
        Checks.same("addKind least", s.addKind(1, 1, 1, 1, 0, 0), 1);
        for (int number = 2; number < 10; number++) {
            Checks.same("addKind number", s.addKind(1, 2, 3, 4, 5, 1), number);
        }
        Checks.fails("addKind eleventh", s, STATE, () -> s.addKind(1, 1, 1, 1, 0, 0));
        Checks.fails("addKind eleventh and wrong", s, ARGUMENT, () -> s.addKind(0, 1, 1, 1, 0, 0));
        Checks.same("ten kinds", s.count(0), 10);
        PalletStack turns = with(kind(2, 1, 1, 1, 9, 0), kind(2, 1, 1, 1, 9, 1), kind(2, 1, 1, 1, 9, 2),
                kind(2, 1, 1, 1, 9, 3), kind(1, 1, 1, 1, 9, 0));
        for (int how = 0; how < 4; how++) {
            Checks.same("how " + how + " turned", turns.reason(how, 0, 0, true), how % 2 == 1 ? 0 : 1);
        }
        turns.put(1, 0, 0, false);
        for (int how = 0; how < 4; how++) {
            Checks.same("how " + how + " on a box", turns.reason(how, 0, 0, false), how >= 2 ? 3 : 0);
        }
    }

    private static void promise3SetRules() {
        PalletStack s = with(kind(2, 2, 4, 100, 0, 0));
        Checks.fails("height 0", s, ARGUMENT, () -> s.setRules(0, 0, 1, false));
        Checks.fails("height 41", s, ARGUMENT, () -> s.setRules(41, 0, 1, false));
        Checks.fails("support -1", s, ARGUMENT, () -> s.setRules(1, -1, 1, false));
        Checks.fails("support 101", s, ARGUMENT, () -> s.setRules(1, 101, 1, false));
        Checks.fails("limit 0", s, ARGUMENT, () -> s.setRules(1, 0, 0, false));
        Checks.fails("limit 20001", s, ARGUMENT, () -> s.setRules(1, 0, 20001, false));
        Checks.same("first height", s.setRules(40, 100, 20000, true), 20);
        Checks.same("greatest height", s.setRules(1, 0, 1, false), 40);
        Checks.same("least height", s.setRules(4, 0, 100, false), 1);
        Checks.same("put under the rules", s.put(0, 0, 0, false), 0);
        Checks.same("limit reached", s.reason(0, 4, 4, false), 7);
        s.setRules(3, 0, 1, true);
        Checks.same("what stands stays", s.count(1), 1);
        Checks.same("its top stays", s.top(0, 0), 4);
        Checks.same("new height holds", s.reason(0, 4, 4, false), 2);
    }

    private static void promise4Count() {
        PalletStack s = with(kind(1, 1, 1, 1, 0, 0), kind(1, 1, 1, 1, 0, 0));
        s.put(0, 0, 0, false);
        s.put(0, 1, 0, false);
        s.put(0, 2, 0, false);
        s.takeOff(1);
        s.addLine(1, 3);
        Checks.same("kinds", s.count(0), 2);
        Checks.same("items on the pallet", s.count(1), 2);
        Checks.same("items that came", s.count(2), 3);
        Checks.same("lines", s.count(3), 1);
        for (int what : new int[] {-1, 4, LEAST, GREATEST}) {
            Checks.fails("count " + what, s, INDEX, () -> s.count(what));
        }
    }

    private static void promise5Reason() {
        PalletStack s = with(kind(4, 3, 2, 10, 100, 1), kind(4, 3, 2, 10, 100, 0));
        for (int kind : new int[] {-1, 2, 10, LEAST, GREATEST}) {
            Checks.fails("reason kind " + kind, s, INDEX, () -> s.reason(kind, 0, 0, false));
        }
        Checks.same("last x", s.reason(0, 8, 0, false), 0);
        Checks.same("beyond the last x", s.reason(0, 9, 0, false), 1);
        Checks.same("last y", s.reason(0, 0, 7, false), 0);
        Checks.same("beyond the last y", s.reason(0, 0, 8, false), 1);
        Checks.same("turned: last place", s.reason(0, 9, 6, true), 0);
        Checks.same("turned: beyond x", s.reason(0, 10, 6, true), 1);
        Checks.same("turned: beyond y", s.reason(0, 9, 7, true), 1);
        Checks.same("cannot be turned", s.reason(1, 0, 0, true), 1);
        int[][] outside = {{-1, 0}, {0, -1}, {GREATEST, 0}, {0, GREATEST}, {LEAST, 0}, {0, LEAST}, {12, 10}};
        for (int[] place : outside) {
            Checks.same("outside", s.reason(0, place[0], place[1], false), 1);
        }
        s.setRules(2, 60, 2000, false);
        Checks.same("top at the greatest height", s.reason(0, 0, 0, false), 0);
        s.put(0, 0, 0, false);
        Checks.same("top above the greatest height", s.reason(0, 0, 0, false), 2);
        s.setRules(20, 60, 20, false);
        Checks.same("weights at the limit", s.reason(0, 4, 4, false), 0);
        s.setRules(20, 60, 19, false);
        Checks.same("weights above the limit", s.reason(0, 4, 4, false), 7);
        Checks.same("asking puts nothing", s.count(2), 1);
    }

    private static void promise5Support() {
        PalletStack s = with(kind(5, 1, 1, 1, 100, 0), kind(3, 1, 1, 1, 100, 0), kind(2, 1, 1, 1, 100, 0));
        s.put(1, 0, 0, false);
        Checks.same("3 of 5 cells are 60", s.reason(0, 0, 0, false), 0);
        s.setRules(20, 61, 2000, false);
        Checks.same("3 of 5 cells are not 61", s.reason(0, 0, 0, false), 4);
        s.setRules(20, 60, 2000, false);
        Checks.same("2 of 5 cells are not 60", s.reason(0, 1, 0, false), 4);
        s.put(2, 3, 0, false);
        Checks.same("two boxes of one top give ground", s.reason(0, 0, 0, false), 0);
        s.put(2, 3, 0, false);
        Checks.same("a lower box gives no ground", s.reason(0, 0, 0, false), 4);
        s.setRules(20, 0, 2000, false);
        Checks.same("no support asked", s.reason(0, 0, 0, false), 0);
        s.setRules(20, 100, 2000, false);
        Checks.same("deck is ground", s.reason(0, 0, 5, false), 0);
        Checks.same("deck beside a box is none", s.reason(0, 4, 0, false), 4);
    }

    private static void promise5Corners() {
        PalletStack s = with(kind(3, 3, 1, 1, 100, 0), kind(1, 1, 1, 1, 100, 0));
        s.setRules(20, 40, 2000, true);
        Checks.same("corners on the deck", s.reason(0, 0, 0, false), 0);
        int[][] corners = {{0, 0}, {2, 0}, {0, 2}, {2, 2}};
        int[][] rest = {{1, 0}, {0, 1}, {1, 1}, {2, 1}, {1, 2}};
        for (int[] open : corners) {
            s.clear();
            for (int[] cell : rest) {
                s.put(1, cell[0], cell[1], false);
            }
            for (int[] cell : corners) {
                if (cell != open) {
                    s.put(1, cell[0], cell[1], false);
                }
            }
            Checks.same("a corner without ground", s.reason(0, 0, 0, false), 5);
            s.put(1, open[0], open[1], false);
            Checks.same("all corners with ground", s.reason(0, 0, 0, false), 0);
            s.takeOff(4);
            Checks.same("ground is missing elsewhere", s.reason(0, 0, 0, false), 0);
        }
        s.put(1, 0, 0, false);
        Checks.same("a corner alone is ground", s.reason(0, 0, 0, false), 4);
        s.setRules(20, 0, 2000, true);
        Checks.same("the corners count after the support", s.reason(0, 0, 0, false), 5);
        s.setRules(20, 0, 2000, false);
        Checks.same("the corners are off", s.reason(0, 0, 0, false), 0);
    }

    private static void promise5Loads() {
        PalletStack s = with(kind(2, 2, 1, 30, 60, 0), kind(2, 2, 1, 31, 60, 0), kind(2, 2, 1, 61, 61, 0));
        s.put(0, 0, 0, false);
        Checks.same("one above its strength", s.reason(2, 0, 0, false), 6);
        s.put(0, 0, 0, false);
        Checks.same("load equal to the strength", s.reason(0, 0, 0, false), 0);
        Checks.same("load below bears too much", s.reason(1, 0, 0, false), 6);
        PalletStack cut = with(kind(1, 1, 1, 1, 0, 0), kind(3, 1, 1, 2, 0, 0), kind(3, 1, 1, 3, 0, 0));
        for (int x = 0; x < 3; x++) {
            cut.put(0, x, 0, false);
        }
        Checks.same("2 / 3 is cut to 0", cut.reason(1, 0, 0, false), 0);
        Checks.same("3 / 3 is 1", cut.reason(2, 0, 0, false), 6);
    }

    private static void promise5OrderOfReasons() {
        PalletStack s = with(kind(3, 3, 1, 100, 0, 0), kind(6, 6, 2, 500, 0, 2), kind(6, 6, 2, 500, 0, 0));
        s.put(0, 0, 0, false);
        s.setRules(2, 60, 1, true);
        Checks.same("field first", s.reason(1, 7, 0, false), 1);
        Checks.same("then the height", s.reason(1, 0, 0, false), 2);
        s.setRules(3, 60, 1, true);
        Checks.same("then the deck", s.reason(1, 0, 0, false), 3);
        Checks.same("then the support", s.reason(2, 0, 0, false), 4);
        s.setRules(3, 25, 1, true);
        Checks.same("then the corners", s.reason(2, 0, 0, false), 5);
        s.setRules(3, 25, 1, false);
        Checks.same("then a load", s.reason(2, 0, 0, false), 6);
        Checks.same("then the limit", s.reason(2, 6, 0, false), 7);
    }

    private static void promise6Put() {
        PalletStack s = with(kind(3, 2, 2, 10, 20, 1), kind(1, 1, 1, 1, 100, 0));
        for (int kind : new int[] {-1, 2, GREATEST}) {
            Checks.fails("put kind " + kind, s, INDEX, () -> s.put(kind, 0, 0, false));
        }
        Checks.same("first number", s.put(0, 1, 2, true), 0);
        facts("put turned", s, 0, 0, 1, 2, 0, 2, 1, 0, 0, 0, 6);
        Checks.same("second number", s.put(0, 1, 2, true), 1);
        facts("put on a box", s, 1, 0, 1, 2, 2, 4, 1, 0, 0, 1, 6);
        Checks.fails("put outside", s, STATE, () -> s.put(0, 10, 0, false));
        Checks.fails("put without ground", s, STATE, () -> s.put(0, 2, 2, false));
        s.put(0, 1, 2, true);
        Checks.fails("put too heavy", s, STATE, () -> s.put(0, 1, 2, true));
        Checks.same("a refused box has no number", s.put(1, 11, 9, false), 3);
        for (int came = 4; came < 60; came++) {
            Checks.same("number", s.put(1, came % 6 + 6, came / 12, false), came);
        }
        Checks.same("it could be put there", s.reason(1, 0, 9, false), 0);
        Checks.fails("60 came", s, STATE, () -> s.put(1, 0, 9, false));
        s.takeOff(3);
        Checks.fails("60 came, one was taken off", s, STATE, () -> s.put(1, 0, 9, false));
        Checks.fails("60 came and no such kind", s, INDEX, () -> s.put(2, 0, 9, false));
    }

    private static void promise7TakeOff() {
        PalletStack s = with(kind(2, 2, 2, 10, 100, 0), kind(2, 2, 1, 6, 100, 0));
        s.put(0, 0, 0, false);
        s.put(0, 2, 0, false);
        s.put(1, 1, 0, false);
        for (int item : new int[] {-1, 3, 60, LEAST, GREATEST}) {
            Checks.fails("takeOff " + item, s, INDEX, () -> s.takeOff(item));
        }
        Checks.fails("takeOff under a box", s, STATE, () -> s.takeOff(0));
        Checks.fails("takeOff under the same box", s, STATE, () -> s.takeOff(1));
        Checks.same("load before", s.item(0, 6), 3);
        Checks.same("takeOff", s.takeOff(2), 2);
        Checks.fails("takeOff twice", s, INDEX, () -> s.takeOff(2));
        facts("below a box taken off", s, 0, 0, 0, 0, 0, 2, 0, 0, 0, 0, 4);
        Checks.same("top after", s.top(1, 0), 2);
        Checks.same("at after", s.at(1, 0, 2), -1);
        Checks.same("sum after", s.sum(0), 20);
        Checks.same("takeOff now free", s.takeOff(0), 1);
        Checks.same("a number is not given again", s.put(0, 0, 0, false), 3);
        Checks.same("came", s.count(2), 4);
        s.clear();
        s.setRules(20, 50, 2000, false);
        s.put(1, 0, 0, false);
        s.put(0, 2, 0, false);
        s.put(0, 1, 0, false);
        Checks.same("an overhang with a gap", s.item(2, 8), 1);
        Checks.same("a box under a gap can go", s.takeOff(0), 2);
        Checks.same("nothing falls", s.item(2, 3), 2);
        Checks.same("the overhang is the top", s.top(1, 0), 4);
        Checks.same("the deck is free again", s.top(0, 0), 0);
    }

    private static void promise8Item() {
        PalletStack s = with(kind(3, 2, 2, 7, 50, 1), kind(2, 2, 1, 5, 50, 0));
        s.put(0, 4, 5, false);
        s.put(1, 4, 5, false);
        s.put(1, 7, 5, false);
        facts("below", s, 0, 0, 4, 5, 0, 2, 0, 5, 1, 0, 6);
        facts("above", s, 1, 1, 4, 5, 2, 3, 0, 0, 0, 1, 4);
        facts("beside", s, 2, 1, 7, 5, 0, 1, 0, 0, 0, 0, 4);
        for (int what : new int[] {-1, 10, LEAST, GREATEST}) {
            Checks.fails("item what " + what, s, INDEX, () -> s.item(0, what));
        }
        for (int item : new int[] {-1, 3, 60, LEAST, GREATEST}) {
            Checks.fails("item " + item, s, INDEX, () -> s.item(item, 0));
        }
        s.takeOff(1);
        Checks.fails("item taken off", s, INDEX, () -> s.item(1, 0));
    }

    private static void promise8Loads() {
        PalletStack s = with(kind(2, 1, 1, 10, 100, 0), kind(3, 1, 1, 10, 100, 0), kind(1, 1, 1, 7, 100, 0));
        s.put(0, 0, 0, false);
        s.put(2, 2, 0, false);
        s.put(1, 0, 0, false);
        s.put(2, 0, 0, false);
        facts("all on three cells", s, 2, 1, 0, 0, 1, 2, 0, 7, 1, 2, 3);
        // (10 + 7) * 2 / 3 = 11, (10 + 7) * 1 / 3 = 5, each cut by itself
        Checks.same("two of three cells", s.item(0, 6), 11);
        Checks.same("one of three cells", s.item(1, 6), 5);
        PalletStack gap = with(kind(2, 1, 1, 10, 100, 0), kind(3, 1, 1, 10, 100, 0));
        gap.put(0, 1, 0, false);
        gap.put(1, 0, 0, false);
        Checks.same("cells without ground bear nothing", gap.item(1, 9), 2);
        Checks.same("the whole weight is on the ground", gap.item(0, 6), 10);
        gap.put(1, 0, 0, false);
        Checks.same("a load is passed on", gap.item(0, 6), 20);
        Checks.same("the load of the one between", gap.item(1, 6), 10);
        Checks.same("only what stands on it directly", gap.item(0, 7), 1);
    }

    private static void promise9Top() {
        PalletStack s = with(kind(2, 3, 3, 1, 100, 0));
        s.put(0, 10, 7, false);
        s.put(0, 10, 7, false);
        Checks.same("covered", s.top(10, 7), 6);
        Checks.same("covered at the last cell", s.top(11, 9), 6);
        Checks.same("beside in x", s.top(9, 7), 0);
        Checks.same("beside in y", s.top(10, 6), 0);
        int[][] none = {{-1, 0}, {12, 0}, {0, -1}, {0, 10}, {GREATEST, GREATEST}, {LEAST, 0}};
        for (int[] cell : none) {
            Checks.fails("top outside", s, INDEX, () -> s.top(cell[0], cell[1]));
        }
    }

    private static void promise10At() {
        PalletStack s = with(kind(2, 1, 2, 1, 100, 0), kind(4, 1, 1, 1, 100, 0));
        s.setRules(20, 50, 2000, false);
        s.put(0, 0, 0, false);
        s.put(1, 0, 0, false);
        Checks.same("lowest layer", s.at(0, 0, 0), 0);
        Checks.same("layer below the top", s.at(1, 0, 1), 0);
        Checks.same("layer of the upper one", s.at(1, 0, 2), 1);
        Checks.same("above all", s.at(1, 0, 3), -1);
        Checks.same("beside", s.at(4, 0, 0), -1);
        Checks.same("in the gap under an overhang", s.at(3, 0, 1), -1);
        Checks.same("overhang", s.at(3, 0, 2), 1);
        Checks.same("highest layer", s.at(0, 0, 39), -1);
        int[][] none = {{-1, 0, 0}, {12, 0, 0}, {0, -1, 0}, {0, 10, 0}, {0, 0, -1}, {0, 0, 40}, {0, 0, GREATEST}};
        for (int[] cell : none) {
            Checks.fails("at outside", s, INDEX, () -> s.at(cell[0], cell[1], cell[2]));
        }
    }

    private static void promise11RestsOn() {
        PalletStack s = with(kind(2, 1, 1, 1, 100, 0), kind(4, 1, 1, 1, 100, 0));
        s.put(0, 0, 0, false);
        s.put(0, 2, 0, false);
        s.put(0, 2, 0, false);
        s.put(0, 0, 0, false);
        s.put(1, 0, 0, false);
        s.put(0, 6, 0, false);
        boolean[][] due = new boolean[6][6];
        due[2][1] = true;
        due[3][0] = true;
        due[4][0] = true;
        due[4][1] = true;
        due[4][2] = true;
        due[4][3] = true;
        for (int a = 0; a < 6; a++) {
            for (int b = 0; b < 6; b++) {
                Checks.yes("restsOn " + a + " " + b, s.restsOn(a, b) == due[a][b]);
            }
        }
        s.takeOff(5);
        int[][] none = {{5, 0}, {0, 5}, {-1, 0}, {0, -1}, {6, 0}, {0, 6}, {GREATEST, 0}, {0, LEAST}, {5, 5}};
        for (int[] pair : none) {
            Checks.fails("restsOn without item", s, INDEX, () -> s.restsOn(pair[0], pair[1]));
        }
    }

    private static int code(int x, int y, int turned) {
        return 2 * (12 * y + x) + turned;
    }

    private static void promise12Best() {
        PalletStack s = with(kind(6, 5, 1, 10, 100, 0), kind(6, 5, 1, 10, 0, 2), kind(6, 5, 1, 10, 0, 0));
        for (int kind : new int[] {-1, 3, LEAST, GREATEST}) {
            Checks.fails("best kind " + kind, s, INDEX, () -> s.best(kind));
        }
        Checks.same("empty pallet", s.best(0), 0);
        s.put(0, 0, 0, false);
        Checks.same("least bottom, least y before least x", s.best(0), code(6, 0, 0));
        s.put(0, 6, 5, false);
        Checks.same("least y", s.best(0), code(6, 0, 0));
        s.put(2, 6, 0, false);
        Checks.same("least x of the last row", s.best(0), code(0, 5, 0));
        s.put(2, 0, 5, false);
        Checks.same("on the deck no more", s.best(1), -1);
        Checks.same("on the two that bear", s.best(0), 0);
        s.put(0, 0, 0, false);
        Checks.same("least bottom before least y", s.best(0), code(6, 5, 0));
        s.put(0, 6, 5, false);
        Checks.same("then above", s.best(0), 0);
        s.setRules(2, 60, 2000, false);
        Checks.same("none is left", s.best(0), -1);
        s.setRules(20, 60, 60, false);
        Checks.same("the limit", s.best(0), -1);
        Checks.same("telling puts nothing", s.count(2), 6);
        PalletStack last = with(kind(6, 5, 1, 1, 0, 0), kind(1, 1, 1, 1, 0, 0), kind(6, 4, 1, 1, 0, 0),
                kind(5, 1, 1, 1, 0, 0));
        last.put(0, 0, 0, false);
        last.put(0, 6, 0, false);
        last.put(0, 0, 5, false);
        last.put(2, 6, 5, false);
        last.put(3, 6, 9, false);
        Checks.same("the very last cell", last.best(1), code(11, 9, 0));
    }

    private static void promise12BestTurned() {
        PalletStack s = with(kind(2, 1, 1, 1, 9, 1), kind(3, 3, 1, 1, 9, 1), kind(6, 5, 1, 1, 0, 0),
                kind(5, 1, 1, 1, 9, 0), kind(6, 5, 1, 1, 100, 0), kind(1, 4, 1, 1, 9, 1));
        Checks.same("not turned before turned", s.best(0), 0);
        Checks.same("a square not turned", s.best(1), 0);
        s.put(2, 0, 0, false);
        s.put(2, 6, 0, false);
        s.put(2, 0, 5, false);
        s.put(3, 6, 5, false);
        s.put(3, 7, 6, false);
        s.put(3, 7, 7, false);
        s.put(3, 7, 8, false);
        s.put(3, 7, 9, false);
        // Free deck: column 6 from y 6 to 9 and the cell (11, 5).
        Checks.same("turned, since it fits only so", s.best(0), code(6, 6, 1));
        Checks.same("not turned, since it fits only so", s.best(5), code(6, 6, 0));
        PalletStack ground = with(kind(6, 5, 2, 1, 0, 0), kind(6, 1, 1, 1, 100, 0), kind(4, 2, 1, 1, 0, 1));
        ground.setRules(20, 50, 2000, false);
        ground.put(0, 6, 0, false);
        ground.put(0, 0, 5, false);
        ground.put(0, 6, 5, false);
        for (int y : new int[] {0, 2, 3, 4}) {
            ground.put(1, 0, y, false);
        }
        // The row y 1 is free, so that what covers it has less ground.
        Checks.same("allowed at the least y", ground.reason(2, 0, 0, false), 0);
        Checks.same("most ground before least y", ground.best(2), code(0, 2, 0));
    }

    private static void promise13Fill() {
        PalletStack s = with(kind(6, 5, 2, 10, 0, 0), kind(1, 1, 1, 1, 5000, 0), kind(6, 5, 2, 10, 0, 0));
        for (int kind : new int[] {-1, 3, GREATEST}) {
            Checks.fails("fill kind " + kind, s, INDEX, () -> s.fill(kind, 0));
        }
        for (int most : new int[] {0, 61, -1, LEAST, GREATEST}) {
            Checks.fails("fill most " + most, s, ARGUMENT, () -> s.fill(0, most));
        }
        Checks.same("fill one", s.fill(0, 1), 1);
        Checks.same("fill the deck", s.fill(0, 60), 3);
        Checks.same("fill a full deck", s.fill(2, 5), 0);
        facts("second place", s, 1, 0, 6, 0, 0);
        facts("third place", s, 2, 0, 0, 5, 0);
        s.clear();
        Checks.same("fill to 60", s.fill(1, 60), 60);
        Checks.same("best place when 60 came", s.best(1), code(0, 5, 0));
        Checks.same("fill after 60 came", s.fill(1, 60), 0);
        s.takeOff(59);
        Checks.same("fill though one was taken off", s.fill(1, 1), 0);
        s.clear();
        s.fill(1, 50);
        Checks.same("fill the rest of 60", s.fill(1, 60), 10);
        s.clear();
        s.setRules(20, 60, 25, false);
        Checks.same("fill to the limit", s.fill(0, 60), 2);
    }

    /** The search tries lower places behind the best one: what is put there must not be taken for their load. */
    private static void promise13FillAboveRefusedPlaces() {
        PalletStack s = with(kind(6, 5, 2, 1, 50, 0), kind(6, 5, 1, 1, 0, 0), kind(1, 1, 1, 5, 0, 0));
        s.put(0, 0, 0, false);
        s.put(1, 6, 0, false);
        s.put(1, 0, 5, false);
        s.put(1, 6, 5, false);
        Checks.same("lower places bear nothing", s.reason(2, 6, 0, false), 6);
        Checks.same("fill on the one that bears", s.fill(2, 1), 1);
        facts("on the one that bears", s, 4, 2, 0, 0, 2, 3, 0, 0, 0, 1, 1);
        Checks.same("it bears the box", s.item(0, 6), 5);
        s.addLine(2, 1);
        Checks.same("stack on the one that bears", s.stack(), 1);
        facts("beside the box before", s, 5, 2, 1, 0, 2, 3, 0, 0, 0, 1, 1);
        Checks.same("it bears both", s.item(0, 6), 10);
        Checks.same("two stand on it", s.item(0, 7), 2);
        for (int lower = 1; lower < 4; lower++) {
            Checks.same("a lower place bears nothing", s.item(lower, 6), 0);
        }
    }

    private static void promise14AddLine() {
        PalletStack s = with(kind(1, 1, 1, 1, 0, 0), kind(1, 1, 1, 1, 0, 0));
        for (int kind : new int[] {-1, 2, GREATEST}) {
            Checks.fails("addLine kind " + kind, s, INDEX, () -> s.addLine(kind, 0));
        }
        for (int count : new int[] {0, 21, -1, LEAST, GREATEST}) {
            Checks.fails("addLine count " + count, s, ARGUMENT, () -> s.addLine(0, count));
        }
        Checks.same("least count", s.addLine(1, 1), 0);
        for (int number = 1; number < 20; number++) {
            Checks.same("line number", s.addLine(0, 20), number);
        }
        Checks.fails("a 21st line", s, STATE, () -> s.addLine(0, 1));
        Checks.fails("a 21st line, wrong count", s, ARGUMENT, () -> s.addLine(0, 0));
        Checks.fails("a 21st line, wrong kind", s, INDEX, () -> s.addLine(2, 0));
        Checks.same("twenty lines", s.count(3), 20);
    }

    private static void promise15StackOrder() {
        PalletStack s = with(kind(1, 1, 1, 5, 10, 0), kind(1, 1, 1, 5, 20, 0), kind(1, 1, 1, 6, 20, 0),
                kind(1, 1, 1, 1, 0, 2), kind(1, 1, 1, 1, 1, 3), kind(1, 1, 1, 6, 20, 0));
        s.addLine(0, 1);
        s.addLine(1, 2);
        s.addLine(5, 1);
        s.addLine(2, 1);
        s.addLine(3, 1);
        s.addLine(4, 2);
        Checks.same("boxes of the order", s.stack(), 8);
        int[] due = {4, 4, 3, 5, 2, 1, 1, 0};
        for (int i = 0; i < due.length; i++) {
            facts("order of boxes", s, i, due[i], i, 0, 0);
        }
        for (int i = 0; i < 6; i++) {
            Checks.same("line is empty", s.line(i, true), 0);
        }
        Checks.same("lines stay", s.count(3), 6);
        Checks.same("empty lines give none", s.stack(), 0);
    }

    private static void promise15PutAside() {
        PalletStack s = with(kind(6, 5, 3, 100, 0, 2), kind(6, 5, 1, 10, 5000, 0), kind(1, 1, 1, 1, 0, 0));
        s.addLine(1, 6);
        s.addLine(0, 5);
        s.addLine(2, 3);
        s.setRules(4, 60, 2000, false);
        Checks.same("what finds a place", s.stack(), 4);
        Checks.same("aside", s.line(0, true), 6);
        Checks.same("partly put", s.line(1, true), 1);
        Checks.same("aside too", s.line(2, true), 3);
        s.takeOff(3);
        Checks.same("aside is only for one call", s.stack(), 1);
        Checks.same("the deck first", s.item(4, 0), 0);
        s.takeOff(4);
        Checks.same("the greater strength then", s.stack(), 4);
        Checks.same("four layers stand there", s.line(0, true), 2);
        Checks.same("and one more would be too high", s.top(11, 9), 4);
        Checks.same("for the last line too", s.line(2, true), 3);
        s.clear();
        s.addLine(2, 20);
        s.addLine(2, 20);
        s.addLine(2, 19);
        s.addLine(1, 2);
        Checks.same("60 came", s.stack(), 60);
        Checks.same("the last count", s.line(2, true), 1);
        Checks.same("60 came before", s.stack(), 0);
    }

    /** The last two cells of the deck are free; what stands on the others bears nothing. */
    private static void coverAllButTwo(PalletStack s) {
        int large = s.addKind(6, 5, 1, 1, 0, 0);
        s.put(large, 0, 0, false);
        s.put(large, 6, 0, false);
        s.put(large, 0, 5, false);
        s.put(s.addKind(6, 4, 1, 1, 0, 0), 6, 5, false);
        s.put(s.addKind(4, 1, 1, 1, 0, 0), 6, 9, false);
    }

    private static void promise15AsideStaysAside() {
        PalletStack s = new PalletStack();
        coverAllButTwo(s);
        Checks.same("the stronger kind", s.addKind(3, 1, 1, 6, 90, 0), 3);
        Checks.same("the weaker kind", s.addKind(1, 1, 2, 1, 80, 0), 4);
        s.addLine(3, 1);
        s.addLine(4, 2);
        // Two cells are too few for the stronger kind, until the weaker one makes it a place.
        Checks.same("the stronger kind finds no place", s.best(3), -1);
        Checks.same("the others are put", s.stack(), 2);
        Checks.same("then it would find one", s.best(3), code(9, 9, 0));
        Checks.same("but was put aside", s.line(0, true), 1);
        Checks.same("the next stack puts it", s.stack(), 1);
        facts("on the two that bear it", s, 7, 3, 9, 9, 2, 3, 0, 0, 0, 2, 2);
    }

    private static void promise15LinesAreAsideNotKinds() {
        PalletStack s = new PalletStack();
        coverAllButTwo(s);
        Checks.same("a long kind", s.addKind(3, 1, 1, 6, 90, 0), 3);
        Checks.same("a short kind, as strong and as heavy", s.addKind(1, 1, 2, 6, 90, 0), 4);
        s.addLine(3, 1);
        s.addLine(4, 2);
        s.addLine(3, 1);
        Checks.same("the last line finds the place made for it", s.stack(), 3);
        Checks.same("the first line is aside", s.line(0, true), 1);
        Checks.same("the second line is empty", s.line(1, true), 0);
        Checks.same("the last line is empty", s.line(2, true), 0);
    }

    private static void promise16Line() {
        PalletStack s = with(kind(1, 1, 1, 1, 0, 0), kind(1, 1, 1, 1, 0, 0));
        s.addLine(1, 7);
        s.addLine(0, 20);
        Checks.same("kind", s.line(0, false), 1);
        Checks.same("count", s.line(0, true), 7);
        Checks.same("other kind", s.line(1, false), 0);
        Checks.same("other count", s.line(1, true), 20);
        for (int line : new int[] {-1, 2, 20, LEAST, GREATEST}) {
            Checks.fails("line " + line, s, INDEX, () -> s.line(line, true));
            Checks.fails("line " + line, s, INDEX, () -> s.line(line, false));
        }
    }

    private static void promise17Clear() {
        PalletStack s = with(kind(2, 2, 2, 10, 50, 0));
        s.setRules(9, 50, 100, false);
        for (int i = 0; i < 5; i++) {
            s.put(0, 2 * i, 0, false);
        }
        s.put(0, 1, 0, false);
        s.takeOff(3);
        s.addLine(0, 4);
        Checks.same("clear", s.clear(), 5);
        Checks.same("came", s.count(2), 0);
        Checks.same("lines", s.count(3), 0);
        Checks.same("kinds stay", s.count(0), 1);
        Checks.same("top", s.top(1, 0), 0);
        Checks.same("weights", s.sum(0), 0);
        Checks.fails("item", s, INDEX, () -> s.item(0, 0));
        Checks.fails("line", s, INDEX, () -> s.line(0, true));
        Checks.same("numbers start again", s.put(0, 0, 0, false), 0);
        facts("nothing is left of the load", s, 0, 0, 0, 0, 0, 2, 0, 0, 0, 0, 4);
        Checks.same("lines start again", s.addLine(0, 2), 0);
        Checks.same("the rules stay", s.setRules(20, 60, 2000, false), 9);
        Checks.same("clear one", s.clear(), 1);
        PalletStack loaded = with(kind(1, 1, 1, 10, 10, 0));
        loaded.put(0, 0, 0, false);
        loaded.put(0, 0, 0, false);
        loaded.clear();
        loaded.put(0, 0, 0, false);
        Checks.same("a load before counts no more", loaded.reason(0, 0, 0, false), 0);
        Checks.same("it can be put there", loaded.put(0, 0, 0, false), 1);
        Checks.same("clear none", s.clear(), 0);
    }

    private static void promise18Sum() {
        PalletStack s = with(kind(3, 2, 2, 10, 50, 0), kind(3, 2, 3, 20, 50, 0));
        s.put(0, 0, 0, false);
        s.put(1, 0, 0, false);
        s.put(0, 0, 0, false);
        s.put(1, 5, 5, false);
        s.takeOff(2);
        Checks.same("weights", s.sum(0), 50);
        Checks.same("greatest top", s.sum(1), 5);
        Checks.same("greatest load", s.sum(2), 20);
        Checks.same("covered deck", s.sum(3), 12);
        PalletStack light = with(kind(1, 1, 1, 1, 1, 0));
        light.put(0, 0, 0, false);
        light.put(0, 0, 0, false);
        Checks.same("greatest load of 1", light.sum(2), 1);
        for (int what : new int[] {-1, 4, LEAST, GREATEST}) {
            Checks.fails("sum " + what, s, INDEX, () -> s.sum(what));
        }
    }

    private static void promise19Middle() {
        PalletStack s = with(kind(3, 2, 1, 7, 50, 1), kind(1, 1, 1, 2, 50, 0));
        s.put(0, 2, 4, true);
        Checks.same("one box, x", s.middle(false), 3.0);
        Checks.same("one box, y", s.middle(true), 5.5);
        s.put(1, 11, 0, false);
        s.put(1, 0, 0, false);
        Checks.same("three boxes, x", s.middle(false), (7.0 * 6 + 2 * 23 + 2) / 22);
        Checks.same("three boxes, y", s.middle(true), (7.0 * 11 + 2 + 2) / 22);
        s.takeOff(2);
        Checks.same("two boxes, x", s.middle(false), (7.0 * 6 + 2 * 23) / 18);
        s.clear();
        Checks.same("no box, x", s.middle(false), 0.0);
        Checks.same("no box, y", s.middle(true), 0.0);
    }

    private static void promise20Filled() {
        PalletStack s = with(kind(6, 5, 4, 1, 50, 0), kind(1, 1, 1, 1, 50, 0));
        s.put(1, 11, 9, false);
        Checks.same("one cell", s.filled(), 1.0 / 120);
        s.put(0, 0, 0, false);
        Checks.same("two boxes", s.filled(), 121.0 / 480);
        s.put(1, 0, 0, false);
        Checks.same("three boxes", s.filled(), 122.0 / 600);
        s.clear();
        Checks.same("empty again", s.filled(), 0.0);
        s.fill(0, 4);
        Checks.same("a full pallet", s.filled(), 1.0);
    }

    private static void promise21Digest() {
        Checks.same("empty", new PalletStack().digest(), digestOf(0, 0, 0, 0, 0, 0, 0, 0));
        PalletStack s = with(kind(2, 1, 1, 5, 50, 1), kind(1, 1, 2, 3, 9, 0));
        s.put(1, 7, 7, false);
        s.put(0, 3, 4, true);
        s.put(1, 3, 5, false);
        s.takeOff(0);
        s.addLine(1, 4);
        s.addLine(0, 6);
        Checks.same("two items and two lines", s.digest(), digestOf(2, 2, 3, 2,
                1, 0, 3, 4, 0, 1, 1, 3, 1, 0, 2,
                2, 1, 3, 5, 1, 3, 0, 0, 0, 1, 1,
                1, 4, 0, 6,
                8, 3, 3, 2));
        Checks.same("telling changes nothing", s.digest(), s.digest());
    }

    private static long digestOf(long... numbers) {
        long sum = 349;
        for (long number : numbers) {
            sum = sum * 31 + number;
        }
        return sum;
    }
}
