/**
 * Refused calls: each throws the exception that the document names first, and changes nothing: afterwards the object
 * tells and does the same as its twin, which was made likewise, without the call.
 */
public final class RefusalsTest {
    private static final Class<IllegalArgumentException> ARGUMENT = IllegalArgumentException.class;
    private static final Class<IllegalStateException> STATE = IllegalStateException.class;
    private static final Class<IndexOutOfBoundsException> INDEX = IndexOutOfBoundsException.class;

    private interface Maker {
        PalletStack make();
    }

    private interface Call {
        void on(PalletStack s);
    }

    private final String state;
    private final Maker maker;
    private final int kinds;
    private final int came;
    private final int lines;
    private final String dueAfterwards;

    private RefusalsTest(String state, Maker maker) {
        this.state = state;
        this.maker = maker;
        PalletStack made = maker.make();
        kinds = made.count(0);
        came = made.count(2);
        lines = made.count(3);
        dueAfterwards = Probe.of(maker.make());
    }

    public static void main(String[] args) {
        RefusalsTest[] states = {
            new RefusalsTest("new", PalletStack::new),
            new RefusalsTest("stocked", RefusalsTest::stocked),
            new RefusalsTest("full", RefusalsTest::full)};
        for (RefusalsTest inState : states) {
            inState.wrongNumbersOfKinds();
            inState.wrongNumbersOfKindsAndMore();
            inState.wrongItems();
            inState.wrongCells();
            inState.wrongLinesAndSums();
            inState.wrongKinds();
            inState.wrongRules();
        }
        refusedWhenStocked(states[1]);
        putRefusedWhenStocked(states[1]);
        refusedWhenFull(states[2]);
        putRefusedWhenFull(states[2]);
        Checks.end();
    }

    /** Five kinds; item 1 stands on item 0, item 2 is beside, item 3 was taken off; no rule is as it was at first. */
    private static PalletStack stocked() {
        PalletStack s = Given.kinds(2, 2, 2, 10, 20, 1, 3, 2, 1, 5, 0, 0, 4, 1, 1, 50, 100, 2, 1, 1, 1, 1, 5, 3,
                3, 3, 1, 2, 40, 1);
        s.setRules(5, 62, 74, true);
        s.put(0, 0, 0, false);
        s.put(0, 0, 0, false);
        s.put(1, 2, 0, false);
        s.put(3, 11, 9, false);
        s.takeOff(3);
        s.addLine(0, 3);
        s.addLine(2, 1);
        return s;
    }

    /** 10 kinds, 20 lines, 60 came; item 1 stands on item 0, item 59 was taken off. */
    private static PalletStack full() {
        PalletStack s = new PalletStack();
        for (int kind = 0; kind < 10; kind++) {
            s.addKind(1, 1, 1, kind + 1, 50, 1);
        }
        s.put(9, 0, 0, false);
        s.put(8, 0, 0, false);
        s.fill(0, 58);
        s.takeOff(59);
        for (int line = 0; line < 20; line++) {
            s.addLine(line / 2, line + 1);
        }
        return s;
    }

    private void refused(String what, Class<? extends RuntimeException> due, Call call) {
        PalletStack s = maker.make();
        Checks.fails(state + ", " + what, s, due, () -> call.on(s));
        Checks.yes(state + ", " + what + " leaves all as it was", Probe.of(s).equals(dueAfterwards));
    }

    // ---- in every state

    private void wrongNumbersOfKinds() {
        for (int kind : Given.outside(0, kinds - 1)) {
            refused("reason of kind " + kind, INDEX, s -> s.reason(kind, 0, 9, false));
            refused("put of kind " + kind, INDEX, s -> s.put(kind, 0, 9, false));
            refused("best of kind " + kind, INDEX, s -> s.best(kind));
            refused("fill of kind " + kind, INDEX, s -> s.fill(kind, 1));
            refused("addLine of kind " + kind, INDEX, s -> s.addLine(kind, 1));
        }
    }

    /** What is named behind "no such kind" applies too, and is not thrown. */
    private void wrongNumbersOfKindsAndMore() {
        for (int kind : Given.outside(0, kinds - 1)) {
            refused("reason of kind " + kind + " outside", INDEX, s -> s.reason(kind, -1, 10, true));
            refused("put of kind " + kind + " outside", INDEX, s -> s.put(kind, -1, 10, true));
            for (int most : Given.outside(1, 60)) {
                refused("fill of kind " + kind + ", " + most, INDEX, s -> s.fill(kind, most));
            }
            for (int count : Given.outside(1, 20)) {
                refused("addLine of kind " + kind + ", " + count, INDEX, s -> s.addLine(kind, count));
            }
        }
    }

    private void wrongItems() {
        for (int item : Given.outside(0, came - 1)) {
            refused("takeOff " + item, INDEX, s -> s.takeOff(item));
            refused("item " + item, INDEX, s -> s.item(item, 0));
            refused("item " + item + " and what", INDEX, s -> s.item(item, 10));
            refused("restsOn " + item + " 0", INDEX, s -> s.restsOn(item, 0));
            refused("restsOn 0 " + item, INDEX, s -> s.restsOn(0, item));
            refused("restsOn " + item + " itself", INDEX, s -> s.restsOn(item, item));
        }
        for (int what : Given.outside(0, 9)) {
            refused("item 0, what " + what, INDEX, s -> s.item(0, what));
        }
    }

    private void wrongCells() {
        for (int x : Given.outside(0, 11)) {
            refused("top, x " + x, INDEX, s -> s.top(x, 0));
            refused("at, x " + x, INDEX, s -> s.at(x, 0, 0));
        }
        for (int y : Given.outside(0, 9)) {
            refused("top, y " + y, INDEX, s -> s.top(0, y));
            refused("at, y " + y, INDEX, s -> s.at(0, y, 0));
        }
        for (int layer : Given.outside(0, 39)) {
            refused("at, layer " + layer, INDEX, s -> s.at(0, 0, layer));
        }
        refused("at, all wrong", INDEX, s -> s.at(12, 10, 40));
    }

    private void wrongLinesAndSums() {
        for (int line : Given.outside(0, lines - 1)) {
            refused("line " + line + ", its count", INDEX, s -> s.line(line, true));
            refused("line " + line + ", its kind", INDEX, s -> s.line(line, false));
        }
        for (int what : Given.outside(0, 3)) {
            refused("count " + what, INDEX, s -> s.count(what));
            refused("sum " + what, INDEX, s -> s.sum(what));
        }
    }

    /** With 10 kinds the state is wrong too, but the argument is named first. */
    private void wrongKinds() {
        for (int side : Given.outside(1, 6)) {
            refused("addKind, width " + side, ARGUMENT, s -> s.addKind(side, 1, 1, 1, 0, 0));
            refused("addKind, depth " + side, ARGUMENT, s -> s.addKind(1, side, 1, 1, 0, 0));
        }
        for (int height : Given.outside(1, 8)) {
            refused("addKind, height " + height, ARGUMENT, s -> s.addKind(1, 1, height, 1, 0, 0));
        }
        for (int weight : Given.outside(1, 500)) {
            refused("addKind, weight " + weight, ARGUMENT, s -> s.addKind(1, 1, 1, weight, 0, 0));
        }
        for (int strength : Given.outside(0, 5000)) {
            refused("addKind, strength " + strength, ARGUMENT, s -> s.addKind(1, 1, 1, 1, strength, 0));
        }
        for (int how : Given.outside(0, 3)) {
            refused("addKind, how " + how, ARGUMENT, s -> s.addKind(1, 1, 1, 1, 0, how));
        }
    }

    private void wrongRules() {
        for (int height : Given.outside(1, 40)) {
            refused("setRules, height " + height, ARGUMENT, s -> s.setRules(height, 0, 1, false));
        }
        for (int support : Given.outside(0, 100)) {
            refused("setRules, support " + support, ARGUMENT, s -> s.setRules(1, support, 1, true));
        }
        for (int limit : Given.outside(1, 20000)) {
            refused("setRules, limit " + limit, ARGUMENT, s -> s.setRules(1, 0, limit, false));
        }
    }

    // ---- with some kinds, items and lines

    private static void refusedWhenStocked(RefusalsTest stocked) {
        stocked.refused("takeOff under another", STATE, s -> s.takeOff(0));
        stocked.refused("takeOff of what was taken off", INDEX, s -> s.takeOff(3));
        stocked.refused("item taken off", INDEX, s -> s.item(3, 0));
        stocked.refused("restsOn of what was taken off", INDEX, s -> s.restsOn(3, 0));
        stocked.refused("restsOn on what was taken off", INDEX, s -> s.restsOn(1, 3));
        for (int most : Given.outside(1, 60)) {
            stocked.refused("fill " + most, ARGUMENT, s -> s.fill(0, most));
        }
        for (int count : Given.outside(1, 20)) {
            stocked.refused("addLine " + count, ARGUMENT, s -> s.addLine(0, count));
        }
    }

    private static void putRefusedWhenStocked(RefusalsTest stocked) {
        stocked.putRefused(1, 0, 11, 0, false);
        stocked.putRefused(1, 1, 5, 5, true);
        stocked.putRefused(2, 0, 0, 0, false);
        stocked.putRefused(3, 2, 2, 0, false);
        stocked.putRefused(4, 4, 4, 0, false);
        stocked.putRefused(5, 4, 2, 0, false);
        stocked.putRefused(6, 1, 2, 0, false);
        stocked.putRefused(7, 2, 0, 5, false);
    }

    private void putRefused(int reason, int kind, int x, int y, boolean isTurned) {
        Checks.same("the reason why not", maker.make().reason(kind, x, y, isTurned), reason);
        refused("put against reason " + reason, STATE, s -> s.put(kind, x, y, isTurned));
    }

    // ---- with all that there can be

    private static void refusedWhenFull(RefusalsTest full) {
        full.refused("an eleventh kind", STATE, s -> s.addKind(1, 1, 1, 1, 0, 0));
        full.refused("a greatest eleventh kind", STATE, s -> s.addKind(6, 6, 8, 500, 5000, 3));
        full.refused("a 21st line", STATE, s -> s.addLine(9, 1));
        full.refused("a 21st line of 20", STATE, s -> s.addLine(0, 20));
        for (int count : Given.outside(1, 20)) {
            full.refused("a 21st line of " + count, ARGUMENT, s -> s.addLine(0, count));
        }
        for (int most : Given.outside(1, 60)) {
            full.refused("fill " + most + " when 60 came", ARGUMENT, s -> s.fill(0, most));
        }
        full.refused("takeOff under another", STATE, s -> s.takeOff(0));
        full.refused("takeOff of what was taken off", INDEX, s -> s.takeOff(59));
    }

    private static void putRefusedWhenFull(RefusalsTest full) {
        full.putRefused(0, 0, 0, 9, false);
        full.putRefused(0, 9, 11, 9, true);
        full.putRefused(1, 0, 12, 9, false);
        full.putRefused(1, 0, 11, 10, true);
    }
}
