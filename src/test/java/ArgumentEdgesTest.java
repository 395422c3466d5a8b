/** Each argument at its edges: one below the least, the least, the greatest, one above the greatest. */
public final class ArgumentEdgesTest {
    private static final Class<IllegalArgumentException> ARGUMENT = IllegalArgumentException.class;
    private static final Class<IllegalStateException> STATE = IllegalStateException.class;
    private static final Class<IndexOutOfBoundsException> INDEX = IndexOutOfBoundsException.class;

    private interface Call {
        void with(int number);
    }

    public static void main(String[] args) {
        addKindRefuses();
        sizes();
        weights();
        leastStrength();
        greatestStrength();
        how();
        setRulesRefuses();
        leastHeight();
        greatestHeight();
        leastSupport();
        greatestSupport();
        supportBetween();
        leastLimit();
        greatestLimit();
        corners();
        kindNumbers();
        itemNumbers();
        whatIsAsked();
        cells();
        places();
        turnedPlaces();
        fillMost();
        lineCounts();
        lineNumbers();
        Checks.end();
    }

    private static void refused(String what, PalletStack s, Class<? extends RuntimeException> due, int least,
            int greatest, Call call) {
        for (int number : Given.outside(least, greatest)) {
            Checks.fails(what + " " + number, s, due, () -> call.with(number));
        }
    }

    // ---- promise 2: addKind

    private static void addKindRefuses() {
        PalletStack s = new PalletStack();
        refused("width", s, ARGUMENT, 1, 6, n -> s.addKind(n, 1, 1, 1, 0, 0));
        refused("depth", s, ARGUMENT, 1, 6, n -> s.addKind(1, n, 1, 1, 0, 0));
        refused("height of a kind", s, ARGUMENT, 1, 8, n -> s.addKind(1, 1, n, 1, 0, 0));
        refused("weight", s, ARGUMENT, 1, 500, n -> s.addKind(1, 1, 1, n, 0, 0));
        refused("strength", s, ARGUMENT, 0, 5000, n -> s.addKind(1, 1, 1, 1, n, 0));
        refused("how", s, ARGUMENT, 0, 3, n -> s.addKind(1, 1, 1, 1, 0, n));
        Checks.same("no kind came of it", s.count(0), 0);
    }

    private static void sizes() {
        covers(1, 1, 1);
        covers(6, 1, 1);
        covers(1, 6, 1);
        covers(1, 1, 8);
        covers(6, 6, 8);
    }

    private static void covers(int width, int depth, int height) {
        String box = "box " + width + " " + depth + " " + height + ": ";
        PalletStack s = Given.kinds(width, depth, height, 1, 0, 0);
        Checks.same(box + "put", s.put(0, 0, 0, false), 0);
        Checks.same(box + "cells", s.item(0, 9), width * depth);
        Checks.same(box + "deck", s.sum(3), width * depth);
        Checks.same(box + "top", s.item(0, 4), height);
        Checks.same(box + "last cell", s.top(width - 1, depth - 1), height);
        Checks.same(box + "beside in x", s.top(width, depth - 1), 0);
        Checks.same(box + "beside in y", s.top(width - 1, depth), 0);
        Checks.same(box + "last layer", s.at(width - 1, depth - 1, height - 1), 0);
        Checks.same(box + "above", s.at(width - 1, depth - 1, height), -1);
        Checks.same(box + "beside in x in a layer", s.at(width, depth - 1, 0), -1);
        Checks.same(box + "beside in y in a layer", s.at(width - 1, depth, 0), -1);
    }

    private static void weights() {
        PalletStack s = Given.kinds(1, 1, 1, 1, 5000, 0, 1, 1, 1, 500, 5000, 0);
        s.put(0, 0, 0, false);
        Checks.same("weight 1", s.sum(0), 1);
        s.put(1, 0, 0, false);
        Checks.same("weight 500 more", s.sum(0), 501);
        Checks.same("weight 500 is borne", s.item(0, 6), 500);
        s.put(0, 0, 0, false);
        Checks.same("weight 1 is borne", s.item(1, 6), 1);
    }

    private static void leastStrength() {
        PalletStack s = Given.kinds(2, 1, 1, 1, 0, 0, 1, 1, 1, 1, 5000, 0, 3, 1, 1, 2, 5000, 0);
        s.put(0, 0, 0, false);
        Checks.same("strength 0 bears no load of 1", s.reason(1, 0, 0, false), 6);
        s.put(1, 2, 0, false);
        Checks.same("strength 0 bears a load of 2 * 2 / 3 no more", s.reason(2, 0, 0, false), 6);
        s.put(1, 10, 0, false);
        s.put(1, 11, 0, false);
        s.put(0, 10, 0, false);
        Checks.same("strength 0 under nothing", s.item(3, 6) + s.item(4, 6), 0);
        PalletStack three = Given.kinds(1, 1, 1, 1, 0, 0, 3, 1, 1, 2, 5000, 0);
        three.fill(0, 3);
        Checks.same("strength 0 bears a load of 2 / 3, cut to 0", three.put(1, 0, 0, false), 3);
        Checks.same("the load 0", three.item(0, 6), 0);
    }

    private static void greatestStrength() {
        PalletStack s = Given.kinds(1, 1, 1, 1, 5000, 0, 1, 1, 1, 500, 5000, 0, 1, 1, 1, 1, 0, 0);
        s.setRules(40, 60, 20000, false);
        s.put(0, 0, 0, false);
        for (int number = 1; number <= 10; number++) {
            Checks.same("strength 5000 bears on", s.put(1, 0, 0, false), number);
        }
        Checks.same("strength 5000 bears 5000", s.item(0, 6), 5000);
        Checks.same("strength 5000 does not bear 5001", s.reason(2, 0, 0, false), 6);
        Checks.fails("a load of 5001", s, STATE, () -> s.put(2, 0, 0, false));
    }

    private static void how() {
        PalletStack s = Given.kinds(2, 1, 1, 1, 9, 0, 2, 1, 1, 1, 9, 1, 2, 1, 1, 1, 9, 2, 2, 1, 1, 1, 9, 3);
        s.put(0, 0, 0, false);
        Checks.same("how 0 is not turned", s.reason(0, 5, 5, true), 1);
        Checks.same("how 0 stands on a box", s.reason(0, 0, 0, false), 0);
        Checks.same("how 1 is turned", s.reason(1, 5, 5, true), 0);
        Checks.same("how 1 stands on a box", s.reason(1, 0, 0, false), 0);
        Checks.same("how 2 is not turned", s.reason(2, 5, 5, true), 1);
        Checks.same("how 2 stands on the deck alone", s.reason(2, 0, 0, false), 3);
        Checks.same("how 3 is turned", s.reason(3, 5, 5, true), 0);
        Checks.same("how 3 stands on the deck alone", s.reason(3, 0, 0, false), 3);
        Checks.same("how 3, turned, stands on the deck alone", s.reason(3, 0, 0, true), 3);
    }

    // ---- promise 3: setRules

    private static void setRulesRefuses() {
        PalletStack s = new PalletStack();
        refused("greatest height", s, ARGUMENT, 1, 40, n -> s.setRules(n, 60, 2000, false));
        refused("support", s, ARGUMENT, 0, 100, n -> s.setRules(20, n, 2000, false));
        refused("limit", s, ARGUMENT, 1, 20000, n -> s.setRules(20, 60, n, false));
        Checks.same("the first height is still there", s.setRules(20, 60, 2000, false), 20);
    }

    private static void leastHeight() {
        PalletStack s = Given.kinds(1, 1, 1, 1, 9, 0, 1, 1, 2, 1, 9, 0);
        Checks.same("height 20 at first", s.setRules(1, 60, 2000, false), 20);
        Checks.same("a top of 2 over 1", s.reason(1, 0, 0, false), 2);
        Checks.same("a top of 1", s.put(0, 0, 0, false), 0);
        Checks.same("a second layer over 1", s.reason(0, 0, 0, false), 2);
        Checks.same("height 1 before", s.setRules(2, 60, 2000, false), 1);
        Checks.same("a second layer of 2", s.reason(0, 0, 0, false), 0);
    }

    private static void greatestHeight() {
        PalletStack s = Given.kinds(1, 1, 8, 1, 5000, 0, 1, 1, 1, 1, 5000, 0);
        s.setRules(40, 60, 2000, false);
        for (int number = 0; number < 5; number++) {
            Checks.same("up to 40", s.put(0, 3, 4, false), number);
        }
        Checks.same("a top of 40", s.top(3, 4), 40);
        Checks.same("the layer 39", s.at(3, 4, 39), 4);
        Checks.same("the greatest top", s.sum(1), 40);
        Checks.same("a top of 41", s.reason(1, 3, 4, false), 2);
        Checks.fails("a box up to 41", s, STATE, () -> s.put(1, 3, 4, false));
        Checks.same("height 40 before", s.setRules(40, 60, 2000, false), 40);
    }

    private static void leastSupport() {
        PalletStack s = Given.kinds(1, 1, 1, 1, 5000, 0, 6, 6, 1, 1, 0, 0);
        s.put(0, 0, 0, false);
        s.setRules(20, 0, 2000, false);
        Checks.same("support 0: one cell of 36", s.reason(1, 0, 0, false), 0);
        s.setRules(20, 1, 2000, false);
        Checks.same("support 1: one cell of 36", s.reason(1, 0, 0, false), 0);
        s.setRules(20, 2, 2000, false);
        Checks.same("support 2: one cell of 36", s.reason(1, 0, 0, false), 0);
        s.setRules(20, 3, 2000, false);
        Checks.same("support 3: one cell of 36", s.reason(1, 0, 0, false), 4);
    }

    private static void greatestSupport() {
        PalletStack s = Given.kinds(6, 5, 1, 1, 5000, 0, 1, 1, 1, 1, 5000, 0, 6, 6, 1, 1, 0, 0);
        s.setRules(20, 100, 2000, false);
        Checks.same("support 100 on the deck", s.reason(2, 6, 4, false), 0);
        s.put(0, 0, 0, false);
        for (int x = 0; x < 5; x++) {
            s.put(1, x, 5, false);
        }
        Checks.same("support 100: 35 of 36 cells", s.reason(2, 0, 0, false), 4);
        s.put(1, 5, 5, false);
        Checks.same("support 100: 36 of 36 cells", s.reason(2, 0, 0, false), 0);
    }

    private static void supportBetween() {
        PalletStack s = Given.kinds(6, 5, 1, 1, 5000, 0, 1, 1, 1, 1, 5000, 0, 6, 6, 1, 1, 0, 0);
        s.put(0, 0, 0, false);
        for (int x = 0; x < 5; x++) {
            s.put(1, x, 5, false);
        }
        s.setRules(20, 97, 2000, false);
        Checks.same("35 * 100 is at least 36 * 97", s.reason(2, 0, 0, false), 0);
        s.setRules(20, 98, 2000, false);
        Checks.same("35 * 100 is less than 36 * 98", s.reason(2, 0, 0, false), 4);
        PalletStack half = Given.kinds(1, 1, 1, 1, 5000, 0, 2, 1, 1, 1, 0, 0);
        half.put(0, 0, 0, false);
        half.setRules(20, 50, 2000, false);
        Checks.same("1 * 100 is 2 * 50", half.reason(1, 0, 0, false), 0);
        half.setRules(20, 51, 2000, false);
        Checks.same("1 * 100 is less than 2 * 51", half.reason(1, 0, 0, false), 4);
    }

    private static void leastLimit() {
        PalletStack s = Given.kinds(1, 1, 1, 1, 0, 0, 1, 1, 1, 2, 0, 0);
        s.setRules(20, 60, 1, false);
        Checks.same("a weight of 2 over 1", s.reason(1, 0, 0, false), 7);
        Checks.same("a weight of 1", s.put(0, 0, 0, false), 0);
        Checks.same("2 together over 1", s.reason(0, 1, 0, false), 7);
        s.setRules(20, 60, 2, false);
        Checks.same("2 together", s.reason(0, 1, 0, false), 0);
    }

    private static void greatestLimit() {
        PalletStack s = Given.kinds(1, 1, 1, 500, 0, 0, 1, 1, 1, 1, 0, 0);
        s.setRules(20, 60, 20000, false);
        Checks.same("40 of 500", s.fill(0, 60), 40);
        Checks.same("20000 together", s.sum(0), 20000);
        Checks.same("20001 together", s.reason(1, 11, 9, false), 7);
        Checks.fails("a box over 20000", s, STATE, () -> s.put(1, 11, 9, false));
        s.takeOff(39);
        Checks.same("19501 together", s.reason(1, 11, 9, false), 0);
    }

    private static void corners() {
        PalletStack s = Given.kinds(1, 1, 1, 1, 5000, 0, 2, 1, 1, 1, 0, 0);
        s.put(0, 0, 0, false);
        s.setRules(20, 50, 2000, true);
        Checks.same("corners on, above the deck", s.reason(1, 0, 0, false), 5);
        Checks.same("corners on, on the deck", s.reason(1, 5, 5, false), 0);
        s.setRules(20, 50, 2000, false);
        Checks.same("corners off again", s.reason(1, 0, 0, false), 0);
    }

    // ---- numbers of kinds, items and lines

    private static PalletStack tenKinds() {
        PalletStack s = new PalletStack();
        for (int weight = 1; weight <= 10; weight++) {
            s.addKind(1, 1, 1, weight, 5000, 1);
        }
        return s;
    }

    private static void kindNumbers() {
        PalletStack s = tenKinds();
        refused("reason, kind", s, INDEX, 0, 9, n -> s.reason(n, 0, 0, false));
        refused("put, kind", s, INDEX, 0, 9, n -> s.put(n, 0, 0, false));
        refused("best, kind", s, INDEX, 0, 9, n -> s.best(n));
        refused("fill, kind", s, INDEX, 0, 9, n -> s.fill(n, 1));
        refused("addLine, kind", s, INDEX, 0, 9, n -> s.addLine(n, 1));
        for (int kind = 0; kind < 10; kind += 9) {
            Checks.same("reason of a kind", s.reason(kind, 0, 0, false), 0);
            Checks.same("best of a kind", s.best(kind), 0);
            Checks.same("put of a kind", s.item(s.put(kind, 0, 0, false), 0), kind);
            Checks.same("fill of a kind", s.fill(kind, 1), 1);
            Checks.same("filled with the kind", s.item(s.count(2) - 1, 0), kind);
            Checks.same("addLine of a kind", s.line(s.addLine(kind, 1), false), kind);
            s.clear();
        }
    }

    private static void itemNumbers() {
        PalletStack s = Given.kinds(1, 1, 1, 1, 5000, 0);
        s.fill(0, 60);
        refused("takeOff", s, INDEX, 0, 59, n -> s.takeOff(n));
        refused("item", s, INDEX, 0, 59, n -> s.item(n, 0));
        refused("restsOn, a", s, INDEX, 0, 59, n -> s.restsOn(n, 0));
        refused("restsOn, b", s, INDEX, 0, 59, n -> s.restsOn(0, n));
        refused("restsOn, both", s, INDEX, 0, 59, n -> s.restsOn(n, n));
        Checks.same("x of item 0", s.item(0, 1), 0);
        Checks.same("x of item 59", s.item(59, 1), 11);
        Checks.same("y of item 59", s.item(59, 2), 4);
        Checks.yes("the last does not rest on the first", !s.restsOn(59, 0));
        Checks.yes("the first does not rest on the last", !s.restsOn(0, 59));
        Checks.yes("the first does not rest on itself", !s.restsOn(0, 0));
        Checks.yes("the last does not rest on itself", !s.restsOn(59, 59));
        Checks.same("takeOff 59", s.takeOff(59), 59);
        Checks.same("takeOff 0", s.takeOff(0), 58);
        Checks.fails("takeOff 0 again", s, INDEX, () -> s.takeOff(0));
        Checks.fails("takeOff 59 again", s, INDEX, () -> s.takeOff(59));
        Checks.fails("item 59, taken off", s, INDEX, () -> s.item(59, 0));
        Checks.fails("restsOn 0, taken off", s, INDEX, () -> s.restsOn(0, 1));
        Checks.fails("restsOn on 59, taken off", s, INDEX, () -> s.restsOn(1, 59));
    }

    private static void lineNumbers() {
        PalletStack s = Given.kinds(1, 1, 1, 1, 0, 0, 1, 1, 1, 1, 0, 0);
        s.addLine(1, 1);
        refused("line, the count", s, INDEX, 0, 0, n -> s.line(n, true));
        refused("line, the kind", s, INDEX, 0, 0, n -> s.line(n, false));
        for (int line = 1; line < 20; line++) {
            s.addLine(0, line);
        }
        refused("line of 20, the count", s, INDEX, 0, 19, n -> s.line(n, true));
        refused("line of 20, the kind", s, INDEX, 0, 19, n -> s.line(n, false));
        Checks.same("the kind of line 0", s.line(0, false), 1);
        Checks.same("the count of line 0", s.line(0, true), 1);
        Checks.same("the kind of line 19", s.line(19, false), 0);
        Checks.same("the count of line 19", s.line(19, true), 19);
    }

    // ---- promises 4, 8, 18: what is asked

    private static void whatIsAsked() {
        PalletStack s = Given.kinds(3, 2, 4, 7, 9, 1);
        s.put(0, 8, 6, true);
        s.put(0, 8, 6, true);
        s.addLine(0, 5);
        s.addLine(0, 5);
        s.addLine(0, 5);
        refused("count", s, INDEX, 0, 3, n -> s.count(n));
        refused("sum", s, INDEX, 0, 3, n -> s.sum(n));
        refused("item, what", s, INDEX, 0, 9, n -> s.item(0, n));
        Checks.same("the first count", s.count(0), 1);
        Checks.same("the last count", s.count(3), 3);
        Checks.same("the first sum", s.sum(0), 14);
        Checks.same("the last sum", s.sum(3), 6);
        Checks.same("the first fact", s.item(1, 0), 0);
        Checks.same("the last fact", s.item(1, 9), 6);
    }

    // ---- promises 9, 10: cells and layers

    private static void cells() {
        PalletStack s = Given.kinds(1, 1, 1, 1, 0, 0);
        int[][] corners = {{0, 0}, {11, 0}, {0, 9}, {11, 9}};
        for (int[] corner : corners) {
            s.put(0, corner[0], corner[1], false);
        }
        refused("top, x", s, INDEX, 0, 11, n -> s.top(n, 0));
        refused("top, y", s, INDEX, 0, 9, n -> s.top(0, n));
        refused("at, x", s, INDEX, 0, 11, n -> s.at(n, 0, 0));
        refused("at, y", s, INDEX, 0, 9, n -> s.at(0, n, 0));
        refused("at, layer", s, INDEX, 0, 39, n -> s.at(0, 0, n));
        for (int i = 0; i < 4; i++) {
            Checks.same("top of a corner", s.top(corners[i][0], corners[i][1]), 1);
            Checks.same("item in a corner", s.at(corners[i][0], corners[i][1], 0), i);
            Checks.same("the last layer of a corner", s.at(corners[i][0], corners[i][1], 39), -1);
        }
        Checks.same("between the corners", s.top(1, 9), 0);
        Checks.same("no item between the corners", s.at(10, 9, 0), -1);
    }

    // ---- promises 5, 6: places

    private static void places() {
        PalletStack s = Given.kinds(6, 4, 1, 1, 9, 1);
        for (int x : Given.outside(0, 6)) {
            Checks.same("reason at x " + x, s.reason(0, x, 0, false), 1);
            Checks.fails("put at x " + x, s, STATE, () -> s.put(0, x, 0, false));
        }
        for (int y : Given.outside(0, 6)) {
            Checks.same("reason at y " + y, s.reason(0, 0, y, false), 1);
            Checks.fails("put at y " + y, s, STATE, () -> s.put(0, 0, y, false));
        }
        int[][] inside = {{0, 0}, {6, 0}, {0, 6}, {6, 6}};
        for (int i = 0; i < 4; i++) {
            Checks.same("reason in a corner", s.reason(0, inside[i][0], inside[i][1], false), 0);
            Checks.same("put in a corner", s.put(0, inside[i][0], inside[i][1], false), i);
            Checks.same("x in a corner", s.item(i, 1), inside[i][0]);
            Checks.same("y in a corner", s.item(i, 2), inside[i][1]);
        }
        Checks.same("the last cell", s.at(11, 9, 0), 3);
    }

    private static void turnedPlaces() {
        PalletStack s = Given.kinds(6, 4, 1, 1, 9, 1);
        for (int x : Given.outside(0, 8)) {
            Checks.same("turned, at x " + x, s.reason(0, x, 0, true), 1);
            Checks.fails("put, turned, at x " + x, s, STATE, () -> s.put(0, x, 0, true));
        }
        for (int y : Given.outside(0, 4)) {
            Checks.same("turned, at y " + y, s.reason(0, 0, y, true), 1);
            Checks.fails("put, turned, at y " + y, s, STATE, () -> s.put(0, 0, y, true));
        }
        Checks.same("turned, in the last corner", s.put(0, 8, 4, true), 0);
        Checks.same("it covers the last cell", s.top(11, 9), 1);
        Checks.same("it covers its first cell", s.top(8, 4), 1);
        Checks.same("beside it in x", s.top(7, 9), 0);
        Checks.same("beside it in y", s.top(11, 3), 0);
    }

    // ---- promises 13, 14: how many

    private static void fillMost() {
        PalletStack s = Given.kinds(1, 1, 1, 1, 0, 0);
        refused("fill, most", s, ARGUMENT, 1, 60, n -> s.fill(0, n));
        Checks.same("fill 1", s.fill(0, 1), 1);
        Checks.same("one came", s.count(2), 1);
        s.clear();
        Checks.same("fill 60", s.fill(0, 60), 60);
        Checks.same("60 came", s.count(2), 60);
    }

    private static void lineCounts() {
        PalletStack s = Given.kinds(1, 1, 1, 1, 0, 0);
        refused("addLine, count", s, ARGUMENT, 1, 20, n -> s.addLine(0, n));
        Checks.same("a line of 1", s.line(s.addLine(0, 1), true), 1);
        Checks.same("a line of 20", s.line(s.addLine(0, 20), true), 20);
        Checks.same("both are stacked", s.stack(), 21);
    }
}
