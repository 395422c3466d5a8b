import java.math.BigInteger;

/** The states at the edges: nothing there, everything full, the checksum beyond 64 bits, the 512th call. */
public final class StateEdgesTest {
    private static final Class<IllegalStateException> STATE = IllegalStateException.class;
    private static final Class<IndexOutOfBoundsException> INDEX = IndexOutOfBoundsException.class;

    public static void main(String[] args) {
        newObject();
        emptyAgainByTakeOff();
        emptyAgainByClear();
        noKinds();
        noLines();
        tenKinds();
        twentyLines();
        sixtyByPut();
        sixtyByFill();
        sixtyByStack();
        sixtyThoughTakenOff();
        sixtyForgottenByClear();
        fullPallet();
        onThirtySix();
        heightAgainstTheFirstRule();
        supportAgainstTheFirstRule();
        limitAgainstTheFirstRule();
        cornersAgainstTheFirstRule();
        standsWithoutCellsInCommon();
        standsOverAGap();
        whatStandsStays();
        lowBesideTooHigh();
        clearLeavesTheRules();
        squareThatCannotBeTurned();
        filledAboveAGap();
        leastThatTells();
        lastBestPlace();
        wrapAround();
        wrapAroundFull();
        lastCall();
        Checks.end();
    }

    // ---- empty

    private static void isEmpty(String what, PalletStack s) {
        Checks.same(what + ": items", s.count(1), 0);
        for (int sum = 0; sum < 4; sum++) {
            Checks.same(what + ": sum " + sum, s.sum(sum), 0);
        }
        for (int cell = 0; cell < 120; cell++) {
            Checks.same(what + ": top", s.top(cell % 12, cell / 12), 0);
        }
        for (int layer = 0; layer < 40; layer++) {
            Checks.same(what + ": at", s.at(0, 0, layer), -1);
        }
        Checks.same(what + ": middle, x", s.middle(false), 0.0);
        Checks.same(what + ": middle, y", s.middle(true), 0.0);
        Checks.same(what + ": filled", s.filled(), 0.0);
        Checks.fails(what + ": item", s, INDEX, () -> s.item(0, 0));
        Checks.fails(what + ": takeOff", s, INDEX, () -> s.takeOff(0));
        Checks.fails(what + ": restsOn", s, INDEX, () -> s.restsOn(0, 0));
    }

    private static void newObject() {
        PalletStack s = new PalletStack();
        isEmpty("new", s);
        Checks.same("new: kinds", s.count(0), 0);
        Checks.same("new: came", s.count(2), 0);
        Checks.same("new: lines", s.count(3), 0);
        Checks.same("new: clear", s.clear(), 0);
        Checks.same("new: stack", s.stack(), 0);
        Checks.same("new: the greatest height", s.setRules(20, 60, 2000, false), 20);
    }

    private static void emptyAgainByTakeOff() {
        PalletStack s = Given.kinds(6, 5, 4, 9, 9, 0);
        s.put(0, 0, 0, false);
        s.put(0, 0, 0, false);
        Checks.same("one is left", s.takeOff(1), 1);
        Checks.same("none is left", s.takeOff(0), 0);
        isEmpty("all taken off", s);
        Checks.same("two came", s.count(2), 2);
        Checks.same("clear of nothing", s.clear(), 0);
        Checks.same("none came", s.count(2), 0);
    }

    private static void emptyAgainByClear() {
        PalletStack s = Given.kinds(6, 5, 4, 9, 9, 0);
        s.put(0, 6, 5, false);
        s.put(0, 6, 5, false);
        s.addLine(0, 20);
        Checks.same("clear", s.clear(), 2);
        isEmpty("cleared", s);
        Checks.same("cleared: kinds", s.count(0), 1);
        Checks.same("cleared: came", s.count(2), 0);
        Checks.same("cleared: lines", s.count(3), 0);
        Checks.same("cleared: stack", s.stack(), 0);
        Checks.same("cleared: the next number", s.put(0, 0, 0, false), 0);
    }

    private static void noKinds() {
        PalletStack s = new PalletStack();
        Checks.same("no kinds", s.count(0), 0);
        Checks.fails("no kinds: reason", s, INDEX, () -> s.reason(0, 0, 0, false));
        Checks.fails("no kinds: put", s, INDEX, () -> s.put(0, 0, 0, false));
        Checks.fails("no kinds: best", s, INDEX, () -> s.best(0));
        Checks.fails("no kinds: fill", s, INDEX, () -> s.fill(0, 1));
        Checks.fails("no kinds: addLine", s, INDEX, () -> s.addLine(0, 1));
        s.clear();
        Checks.same("the first kind", s.addKind(1, 1, 1, 1, 0, 0), 0);
        Checks.same("it can be put", s.reason(0, 0, 0, false), 0);
    }

    private static void noLines() {
        PalletStack s = Given.kinds(1, 1, 1, 1, 0, 0);
        Checks.same("no lines", s.count(3), 0);
        Checks.fails("no lines: the count", s, INDEX, () -> s.line(0, true));
        Checks.fails("no lines: the kind", s, INDEX, () -> s.line(0, false));
        Checks.same("no lines: stack", s.stack(), 0);
        Checks.same("no lines: nothing came", s.count(2), 0);
    }

    // ---- full: 10 kinds, 20 lines, 60 items

    private static void tenKinds() {
        PalletStack s = new PalletStack();
        for (int number = 0; number < 10; number++) {
            Checks.same("number of a kind", s.addKind(1, 1, 1, number + 1, 0, 0), number);
        }
        Checks.fails("an eleventh kind", s, STATE, () -> s.addKind(1, 1, 1, 1, 0, 0));
        Checks.same("ten kinds", s.count(0), 10);
        Checks.same("the tenth can be put", s.put(9, 0, 0, false), 0);
        Checks.same("it has its own weight", s.sum(0), 10);
        s.clear();
        Checks.fails("an eleventh kind after clear", s, STATE, () -> s.addKind(1, 1, 1, 1, 0, 0));
    }

    private static void twentyLines() {
        PalletStack s = Given.kinds(1, 1, 1, 1, 0, 0);
        for (int number = 0; number < 20; number++) {
            Checks.same("number of a line", s.addLine(0, 1), number);
        }
        Checks.fails("a 21st line", s, STATE, () -> s.addLine(0, 1));
        Checks.same("all are stacked", s.stack(), 20);
        Checks.same("the empty ones stay", s.count(3), 20);
        Checks.same("with the count 0", s.line(0, true) + s.line(19, true), 0);
        Checks.fails("a 21st line beside empty ones", s, STATE, () -> s.addLine(0, 1));
        s.clear();
        Checks.same("a first line after clear", s.addLine(0, 1), 0);
        for (int number = 1; number < 20; number++) {
            Checks.same("number of a line after clear", s.addLine(0, 1), number);
        }
        Checks.fails("a 21st line after clear", s, STATE, () -> s.addLine(0, 1));
    }

    private static void sixtyByPut() {
        PalletStack s = Given.kinds(1, 1, 1, 1, 0, 0);
        for (int number = 0; number < 60; number++) {
            Checks.same("number of an item", s.put(0, number % 12, number / 12, false), number);
        }
        Checks.fails("a 61st item", s, STATE, () -> s.put(0, 0, 9, false));
        Checks.same("60 came", s.count(2), 60);
        Checks.same("reason does not look at the 60", s.reason(0, 0, 9, false), 0);
        Checks.same("best does not look at the 60", s.best(0), 2 * 12 * 5);
    }

    private static void sixtyByFill() {
        PalletStack s = Given.kinds(1, 1, 1, 1, 0, 0);
        Checks.same("fill 59", s.fill(0, 59), 59);
        Checks.same("fill to 60", s.fill(0, 2), 1);
        Checks.same("fill after 60 came", s.fill(0, 1), 0);
        Checks.same("60 came", s.count(2), 60);
        Checks.same("no 61st place is covered", s.top(0, 5), 0);
    }

    private static void sixtyByStack() {
        PalletStack s = Given.kinds(1, 1, 1, 1, 9, 0, 1, 1, 1, 1, 8, 0);
        s.fill(0, 50);
        s.addLine(0, 9);
        s.addLine(1, 3);
        s.addLine(1, 2);
        Checks.same("stack to 60", s.stack(), 10);
        Checks.same("the first line is empty", s.line(0, true), 0);
        Checks.same("the second line has some left", s.line(1, true), 2);
        Checks.same("the third line has all left", s.line(2, true), 2);
        Checks.same("stack after 60 came", s.stack(), 0);
        Checks.same("the second line is as before", s.line(1, true), 2);
        Checks.same("60 came", s.count(2), 60);
    }

    private static void sixtyThoughTakenOff() {
        PalletStack s = Given.kinds(1, 1, 1, 1, 0, 0);
        s.fill(0, 60);
        s.addLine(0, 1);
        s.takeOff(59);
        s.takeOff(0);
        Checks.same("58 are on the pallet", s.count(1), 58);
        Checks.fails("put though two were taken off", s, STATE, () -> s.put(0, 0, 0, false));
        Checks.same("fill though two were taken off", s.fill(0, 1), 0);
        Checks.same("stack though two were taken off", s.stack(), 0);
        Checks.same("best though two were taken off", s.best(0), 0);
    }

    private static void sixtyForgottenByClear() {
        PalletStack s = Given.kinds(1, 1, 1, 1, 0, 0);
        s.fill(0, 60);
        Checks.same("clear of 60", s.clear(), 60);
        Checks.same("the next number", s.put(0, 5, 5, false), 0);
        Checks.same("59 more", s.fill(0, 60), 59);
        Checks.same("clear of 60 again", s.clear(), 60);
    }

    private static void fullPallet() {
        PalletStack s = Given.kinds(6, 5, 5, 10, 5000, 0, 1, 1, 1, 1, 0, 1);
        Checks.same("four on the deck, four high", s.fill(0, 60), 16);
        Checks.same("no best place", s.best(1), -1);
        Checks.same("nothing to fill", s.fill(1, 60), 0);
        s.addLine(1, 3);
        Checks.same("nothing to stack", s.stack(), 0);
        Checks.same("the line keeps its count", s.line(0, true), 3);
        Checks.same("all is covered", s.filled(), 1.0);
        Checks.same("the whole deck", s.sum(3), 120);
        Checks.same("the greatest top", s.sum(1), 20);
        Checks.same("the middle, x", s.middle(false), 6.0);
        Checks.same("the middle, y", s.middle(true), 5.0);
        for (int cell = 0; cell < 120; cell++) {
            Checks.same("the height everywhere", s.reason(1, cell % 12, cell / 12, false), 2);
        }
    }

    /** 36 boxes under one are the most that there can be. */
    private static void onThirtySix() {
        PalletStack s = Given.kinds(1, 1, 1, 1, 10, 0, 6, 6, 1, 360, 5000, 0, 6, 6, 1, 35, 5000, 0);
        for (int cell = 0; cell < 36; cell++) {
            s.put(0, 6 + cell % 6, 4 + cell / 6, false);
        }
        Checks.same("on 36 boxes", s.put(1, 6, 4, false), 36);
        Checks.same("stands on 36", s.item(36, 8), 36);
        Checks.same("ground of 36", s.item(36, 9), 36);
        for (int item = 0; item < 36; item++) {
            Checks.same("a part of 360 / 36", s.item(item, 6), 10);
            Checks.same("one stands on it", s.item(item, 7), 1);
        }
        // (360 + 35) / 36 is cut to 10, so that none bears more.
        Checks.same("35 more are cut away", s.put(2, 6, 4, false), 37);
        Checks.same("the part is cut", s.item(0, 6), 10);
        Checks.same("the one between bears it whole", s.item(36, 6), 35);
        Checks.same("36 more would be too much", s.reason(0, 6, 4, false), 6);
    }

    // ---- the rules at first, each at its edge

    private static void heightAgainstTheFirstRule() {
        PalletStack s = Given.kinds(1, 1, 5, 1, 5000, 0, 1, 1, 6, 1, 5000, 0);
        s.put(0, 0, 0, false);
        s.put(0, 0, 0, false);
        s.put(0, 0, 0, false);
        Checks.same("a top of 21", s.reason(1, 0, 0, false), 2);
        Checks.same("a top of 20", s.reason(0, 0, 0, false), 0);
    }

    private static void supportAgainstTheFirstRule() {
        PalletStack s = Given.kinds(5, 1, 1, 1, 5000, 0, 3, 1, 1, 1, 5000, 0, 6, 2, 1, 1, 5000, 0, 6, 1, 1, 1, 5000, 0);
        s.put(1, 0, 0, false);
        Checks.same("3 of 5 cells are 60 of 100", s.reason(0, 0, 0, false), 0);
        s.put(3, 6, 0, false);
        Checks.same("6 of 12 cells are less", s.reason(2, 6, 0, false), 4);
    }

    private static void limitAgainstTheFirstRule() {
        PalletStack s = Given.kinds(1, 1, 1, 500, 0, 0, 1, 1, 1, 499, 0, 0, 1, 1, 1, 1, 0, 0);
        s.fill(0, 3);
        s.put(1, 0, 5, false);
        Checks.same("2499 together", s.reason(0, 0, 6, false), 7);
        Checks.same("2000 together", s.put(2, 0, 6, false), 4);
        Checks.same("2001 together", s.reason(2, 0, 7, false), 7);
    }

    private static void cornersAgainstTheFirstRule() {
        PalletStack s = Given.kinds(2, 1, 1, 1, 5000, 0, 3, 1, 1, 1, 5000, 0);
        s.put(0, 0, 0, false);
        Checks.same("corners are not asked", s.reason(1, 0, 0, false), 0);
    }

    // ---- standing, and what stays

    private static void standsWithoutCellsInCommon() {
        PalletStack s = Given.kinds(2, 2, 1, 10, 100, 0);
        s.put(0, 2, 2, false);
        s.put(0, 4, 4, false);
        s.put(0, 4, 4, false);
        Checks.same("corner to corner: bears nothing", s.item(0, 7), 0);
        Checks.same("corner to corner: stands on one", s.item(2, 8), 1);
        s.put(0, 4, 2, false);
        s.put(0, 2, 4, false);
        Checks.same("side to side: bears nothing", s.item(3, 7) + s.item(4, 7), 0);
        Checks.same("side to side: no load", s.item(3, 6) + s.item(4, 6), 0);
        Checks.yes("side to side: rests on none", !s.restsOn(2, 3) && !s.restsOn(2, 4) && !s.restsOn(2, 0));
    }

    private static void standsOverAGap() {
        PalletStack s = Given.kinds(3, 1, 2, 10, 100, 0, 2, 1, 1, 4, 0, 0, 5, 1, 1, 10, 100, 0);
        s.put(0, 0, 0, false);
        s.put(1, 3, 0, false);
        s.put(2, 0, 0, false);
        Checks.same("the bottom is the greatest top", s.item(2, 3), 2);
        Checks.same("stands on the higher one alone", s.item(2, 8), 1);
        Checks.same("ground on the higher one alone", s.item(2, 9), 3);
        Checks.same("the lower one bears nothing", s.item(1, 6), 0);
        Checks.same("the higher one bears it whole", s.item(0, 6), 10);
        Checks.yes("it does not rest on the lower one", !s.restsOn(2, 1));
        Checks.same("no item in the gap", s.at(3, 0, 1), -1);
        Checks.same("the lower one can go", s.takeOff(1), 2);
        Checks.same("the ground stays", s.item(2, 9), 3);
        Checks.same("the bottom stays", s.item(2, 3), 2);
    }

    private static void whatStandsStays() {
        PalletStack s = Given.kinds(3, 1, 2, 10, 100, 0, 2, 1, 2, 10, 100, 0);
        s.put(1, 0, 0, false);
        s.put(0, 0, 0, false);
        Checks.same("the height before", s.setRules(1, 100, 1, true), 20);
        long digest = s.digest();
        Checks.same("both stay", s.count(1), 2);
        Checks.same("the top stays above the height", s.top(2, 0), 4);
        Checks.same("the weights stay above the limit", s.sum(0), 20);
        Checks.same("the ground stays below the support", s.item(1, 9), 2);
        Checks.same("a new box is refused", s.reason(0, 5, 5, false), 2);
        s.setRules(20, 60, 20, false);
        Checks.same("the limit is reached already", s.reason(0, 5, 5, false), 7);
        Checks.same("rules are no part of the checksum", s.digest(), digest);
    }

    /** The height is asked of the top of the box that is put, not of what stands already. */
    private static void lowBesideTooHigh() {
        PalletStack s = Given.kinds(1, 1, 3, 1, 9, 0, 1, 1, 2, 1, 9, 0);
        s.put(0, 0, 0, false);
        s.setRules(2, 60, 2000, false);
        Checks.same("a low box beside one that is too high now", s.put(1, 1, 0, false), 1);
        Checks.same("the best place is beside it too", s.best(1), 2 * 2);
    }

    private static void clearLeavesTheRules() {
        PalletStack s = Given.kinds(1, 1, 1, 4, 90, 0, 3, 1, 1, 4, 90, 0, 3, 1, 2, 4, 90, 0);
        s.setRules(2, 33, 8, true);
        s.clear();
        Checks.same("the limit: 4", s.put(0, 0, 0, false), 0);
        Checks.same("the corners", s.reason(1, 0, 0, false), 5);
        Checks.same("the height", s.reason(2, 0, 0, false), 2);
        Checks.same("the limit: 8", s.put(0, 5, 5, false), 1);
        Checks.same("the limit: 12", s.reason(0, 6, 6, false), 7);
        s.setRules(2, 33, 12, false);
        s.clear();
        s.put(0, 0, 0, false);
        Checks.same("the corners are off", s.reason(1, 0, 0, false), 0);
        s.setRules(3, 34, 12, false);
        s.clear();
        s.put(0, 0, 0, false);
        Checks.same("the support", s.reason(1, 0, 0, false), 4);
        Checks.same("the height before", s.setRules(3, 34, 12, false), 3);
    }

    private static void squareThatCannotBeTurned() {
        PalletStack s = Given.kinds(2, 2, 1, 1, 9, 0, 2, 2, 1, 1, 9, 2, 2, 2, 1, 1, 9, 1);
        Checks.same("how 0, a square", s.reason(0, 0, 0, true), 1);
        Checks.same("how 2, a square", s.reason(1, 0, 0, true), 1);
        Checks.fails("a square that cannot be turned", s, STATE, () -> s.put(0, 0, 0, true));
        Checks.same("a square that can be turned", s.put(2, 0, 0, true), 0);
        Checks.same("it is turned", s.item(0, 5), 1);
    }

    private static void filledAboveAGap() {
        PalletStack s = Given.kinds(1, 1, 2, 1, 9, 0, 2, 1, 1, 1, 0, 0);
        s.setRules(20, 50, 2000, false);
        s.put(0, 0, 0, false);
        s.put(1, 0, 0, false);
        // Two layers of one cell and one layer of two cells; the gap below is not covered.
        Checks.same("the gap is not covered", s.filled(), 4.0 / 360);
        Checks.same("nor is it deck", s.sum(3), 1);
    }

    /** One box of weight 1, one cell and one layer: the least that is not an empty pallet. */
    private static void leastThatTells() {
        PalletStack s = Given.kinds(1, 1, 1, 1, 0, 0);
        s.put(0, 0, 0, false);
        Checks.same("the middle of the first cell, x", s.middle(false), 0.5);
        Checks.same("the middle of the first cell, y", s.middle(true), 0.5);
        Checks.same("one cell of 120", s.filled(), 1.0 / 120);
        s.clear();
        s.put(0, 11, 9, false);
        Checks.same("the middle of the last cell, x", s.middle(false), 11.5);
        Checks.same("the middle of the last cell, y", s.middle(true), 9.5);
    }

    private static void lastBestPlace() {
        PalletStack s = Given.kinds(6, 5, 1, 1, 0, 0, 6, 4, 1, 1, 0, 0, 5, 1, 1, 1, 0, 0, 1, 1, 1, 1, 0, 1);
        s.put(0, 0, 0, false);
        s.put(0, 6, 0, false);
        s.put(0, 0, 5, false);
        s.put(1, 6, 5, false);
        s.put(2, 6, 9, false);
        Checks.same("the last cell, not turned", s.best(3), 2 * 119);
        Checks.same("it is filled", s.fill(3, 60), 1);
        Checks.same("at the last cell", s.at(11, 9, 0), 5);
        Checks.same("no place is left that bears", s.best(3), -1);
    }

    // ---- the checksum

    /** The document's rule with numbers of any size, and only at the end in 64 bits. */
    private static long digestOf(int... numbers) {
        BigInteger sum = BigInteger.valueOf(349);
        for (int number : numbers) {
            sum = sum.multiply(BigInteger.valueOf(31)).add(BigInteger.valueOf(number));
        }
        return sum.longValue();
    }

    private static void wrapAround() {
        PalletStack s = new PalletStack();
        Checks.same("eight numbers fit in 64 bits", s.digest(), 297658972066909L);
        s.addKind(1, 1, 1, 1, 0, 0);
        s.addLine(0, 1);
        Checks.same("ten numbers fit in 64 bits", s.digest(), digestOf(1, 0, 0, 1, 0, 1, 0, 0, 0, 0));
        s.addLine(0, 2);
        long digest = s.digest();
        Checks.same("twelve numbers do not", digest, digestOf(1, 0, 0, 2, 0, 1, 0, 2, 0, 0, 0, 0));
        Checks.yes("the checksum is below 0 then", digest < 0);
        s.addLine(0, 20);
        s.put(0, 11, 9, false);
        Checks.same("25 numbers", s.digest(), digestOf(1, 1, 1, 3, 0, 0, 11, 9, 0, 1, 0, 0, 0, 0, 1,
                0, 1, 0, 2, 0, 20, 1, 1, 0, 1));
    }

    /** 10 kinds, 60 items and 20 lines: 708 numbers, the most that there are. */
    private static void wrapAroundFull() {
        PalletStack s = new PalletStack();
        for (int kind = 0; kind < 10; kind++) {
            s.addKind(1, 1, 1, 1, 0, 0);
        }
        s.fill(9, 60);
        int[] numbers = new int[4 + 60 * 11 + 20 * 2 + 4];
        int at = 0;
        for (int count : new int[] {10, 60, 60, 20}) {
            numbers[at++] = count;
        }
        for (int item = 0; item < 60; item++) {
            for (int fact : new int[] {item, 9, item % 12, item / 12, 0, 1, 0, 0, 0, 0, 1}) {
                numbers[at++] = fact;
            }
        }
        for (int line = 0; line < 20; line++) {
            s.addLine(line / 2, 20 - line);
            numbers[at++] = line / 2;
            numbers[at++] = 20 - line;
        }
        for (int sum : new int[] {60, 1, 0, 60}) {
            numbers[at++] = sum;
        }
        Checks.same("708 numbers", s.digest(), digestOf(numbers));
    }

    // ---- the last call

    private static void lastCall() {
        PalletStack s = new PalletStack();
        s.addKind(2, 3, 4, 5, 6, 1);
        for (int pair = 0; pair < 255; pair++) {
            Checks.same("put after clear", s.put(0, pair % 10, pair % 8, false), 0);
            Checks.same("clear after put", s.clear(), 1);
        }
        Checks.same("the 512th call", s.put(0, 0, 0, true), 0);
    }
}
