/** What an object tells, and what comes of the calls that follow: some 400 calls, so that 100 can go before. */
final class Probe {
    private static final int[][] PLACES = {{0, 0}, {2, 0}, {4, 0}, {0, 5}, {11, 9}};

    private Probe() {
    }

    private interface Call {
        Object answer();
    }

    static String of(PalletStack s) {
        StringBuilder told = new StringBuilder();
        tellState(told, s);
        tellPlaces(told, s);
        tellWhatFollows(told, s);
        return told.toString();
    }

    private static void tell(StringBuilder told, String call, Call asked) {
        String answer;
        try {
            answer = String.valueOf(asked.answer());
        } catch (IllegalArgumentException | IllegalStateException | IndexOutOfBoundsException e) {
            answer = e.getClass().getName();
        }
        told.append(call).append(' ').append(answer).append('\n');
    }

    private static void tellState(StringBuilder told, PalletStack s) {
        tell(told, "digest", s::digest);
        tell(told, "middle x", () -> s.middle(false));
        tell(told, "middle y", () -> s.middle(true));
        tell(told, "filled", s::filled);
        for (int cell = 0; cell < 120; cell++) {
            int number = cell;
            tell(told, "top " + cell, () -> s.top(number % 12, number / 12));
        }
        for (int layer = 0; layer < 40; layer++) {
            int number = layer;
            tell(told, "at " + layer, () -> s.at(0, 0, number));
        }
        for (int pair = 0; pair < 16; pair++) {
            int number = pair;
            tell(told, "restsOn " + pair, () -> s.restsOn(number / 4, number % 4));
        }
    }

    private static void tellPlaces(StringBuilder told, PalletStack s) {
        for (int kind = 0; kind < 11; kind++) {
            int number = kind;
            tell(told, "best " + kind, () -> s.best(number));
            for (int[] place : PLACES) {
                tell(told, "reason " + kind, () -> s.reason(number, place[0], place[1], false));
                tell(told, "turned " + kind, () -> s.reason(number, place[0], place[1], true));
            }
        }
    }

    private static void tellWhatFollows(StringBuilder told, PalletStack s) {
        tell(told, "put", () -> s.put(0, 5, 5, false));
        tell(told, "fill", () -> s.fill(0, 2));
        tell(told, "addLine", () -> s.addLine(0, 4));
        tell(told, "stack", s::stack);
        tell(told, "takeOff", () -> s.takeOff(1));
        tell(told, "digest then", s::digest);
        tell(told, "setRules", () -> s.setRules(40, 0, 20000, false));
        tell(told, "stack under other rules", s::stack);
        tell(told, "digest under other rules", s::digest);
        tell(told, "addKind", () -> s.addKind(1, 1, 1, 1, 5000, 0));
        tell(told, "clear", s::clear);
        tell(told, "put after clear", () -> s.put(0, 0, 0, false));
        tell(told, "addLine after clear", () -> s.addLine(0, 1));
        tell(told, "digest after clear", s::digest);
    }
}
