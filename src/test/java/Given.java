/** Stackers to begin a test with. */
final class Given {
    private static final int NUMBERS_OF_A_KIND = 6;

    private Given() {
    }

    /** A new stacker with kinds, each given by the six numbers that addKind takes. */
    static PalletStack kinds(int... numbers) {
        PalletStack s = new PalletStack();
        for (int i = 0; i < numbers.length; i += NUMBERS_OF_A_KIND) {
            s.addKind(numbers[i], numbers[i + 1], numbers[i + 2], numbers[i + 3], numbers[i + 4], numbers[i + 5]);
        }
        return s;
    }

    /** The numbers just outside of a range, and those farthest from it. */
    static int[] outside(int least, int greatest) {
        return new int[] {least - 1, greatest + 1, Integer.MIN_VALUE, Integer.MAX_VALUE};
    }
}
