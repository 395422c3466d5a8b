import java.util.Random;

/** Compares PalletStack with the model, call by call, on runs drawn from fixed seeds. */
public final class ModelTest {
    private static final int RUNS = 160;
    private static final int CALLS = 150;

    private final Random random;
    private final PalletStack tested = new PalletStack();
    private final Model model = new Model();
    private final StringBuilder told = new StringBuilder();

    private ModelTest(long seed) {
        random = new Random(seed);
    }

    public static void main(String[] args) {
        int runs = args.length > 0 ? Integer.parseInt(args[0]) : RUNS;
        for (int seed = 0; seed < runs; seed++) {
            new ModelTest(seed).run(seed);
        }
        Checks.end();
    }

    private interface Asked {
        Object answer();
    }

    private static Object answerOf(Asked asked) {
        try {
            return asked.answer();
        } catch (IllegalArgumentException | IllegalStateException | IndexOutOfBoundsException e) {
            return e.getClass().getName();
        }
    }

    private boolean compare(String call, Asked ofTested, Asked ofModel) {
        Object got = answerOf(ofTested);
        Object due = answerOf(ofModel);
        told.append(call).append(" = ").append(got).append('\n');
        Checks.yes(call, got.equals(due));
        if (!got.equals(due)) {
            System.out.println(told + "due is " + due);
            return false;
        }
        return true;
    }

    private void run(int seed) {
        boolean isAsDue = rules(seed % 4);
        for (int i = 0; i < 2 + seed % 6 && isAsDue; i++) {
            isAsDue = kind(seed % 3);
        }
        for (int i = 0; i < CALLS && isAsDue; i++) {
            isAsDue = call();
            if (isAsDue && (i % 8 == 7 || i == CALLS - 1)) {
                isAsDue = compare("digest()", tested::digest, model::digest);
            }
        }
    }

    private int near(int least, int greatest) {
        int edge = random.nextInt(60);
        if (edge == 0) {
            return least - 1;
        }
        if (edge == 1) {
            return greatest + 1;
        }
        return edge == 2 ? random.nextInt() : least + random.nextInt(greatest - least + 1);
    }

    private boolean kind(int size) {
        int side = size == 0 ? 3 : 6;
        int a = near(1, side);
        int b = near(1, side);
        int c = near(1, size == 1 ? 8 : 3);
        int d = near(1, size == 2 ? 500 : 60);
        int e = near(0, random.nextInt(3) == 0 ? 5000 : 300);
        int f = random.nextInt(3) == 0 ? near(0, 3) : random.nextInt(2);
        return compare("addKind(" + a + ", " + b + ", " + c + ", " + d + ", " + e + ", " + f + ")",
                () -> tested.addKind(a, b, c, d, e, f), () -> model.addKind(a, b, c, d, e, f));
    }

    private boolean rules(int how) {
        int a = near(how == 0 ? 1 : 15, 40);
        int b = how == 1 ? near(0, 40) : near(0, 100);
        int c = how == 2 ? near(1, 1000) : near(1000, 20000);
        boolean d = random.nextInt(4) == 0;
        return compare("setRules(" + a + ", " + b + ", " + c + ", " + d + ")",
                () -> tested.setRules(a, b, c, d), () -> model.setRules(a, b, c, d));
    }

    private boolean call() {
        int what = random.nextInt(100);
        if (what < 2) {
            return kind(random.nextInt(3));
        }
        if (what < 4) {
            return rules(random.nextInt(4));
        }
        if (what < 40) {
            return place(what < 16);
        }
        if (what < 70) {
            return items(what);
        }
        if (what < 92) {
            return orders(what);
        }
        return sums(what);
    }

    private boolean place(boolean isAsked) {
        int kind = near(0, Math.max(0, tested.count(0) - 1));
        int x = near(0, 11);
        int y = near(0, 9);
        boolean turned = random.nextInt(3) == 0;
        String of = "(" + kind + ", " + x + ", " + y + ", " + turned + ")";
        if (isAsked) {
            return compare("reason" + of, () -> tested.reason(kind, x, y, turned),
                    () -> model.reason(kind, x, y, turned));
        }
        return compare("put" + of, () -> tested.put(kind, x, y, turned), () -> model.put(kind, x, y, turned));
    }

    private boolean items(int what) {
        int a = near(0, Math.max(0, tested.count(2) - 1));
        int b = near(0, Math.max(0, tested.count(2) - 1));
        int x = near(0, 11);
        int y = near(0, 9);
        int layer = random.nextBoolean() ? near(0, 39) : near(0, 6);
        if (what < 50) {
            return compare("takeOff(" + a + ")", () -> tested.takeOff(a), () -> model.takeOff(a));
        }
        if (what < 56) {
            int fact = near(0, 9);
            return compare("item(" + a + ", " + fact + ")", () -> tested.item(a, fact), () -> model.item(a, fact));
        }
        if (what < 60) {
            return compare("top(" + x + ", " + y + ")", () -> tested.top(x, y), () -> model.top(x, y));
        }
        if (what < 64) {
            return compare("at(" + x + ", " + y + ", " + layer + ")", () -> tested.at(x, y, layer),
                    () -> model.at(x, y, layer));
        }
        return compare("restsOn(" + a + ", " + b + ")", () -> tested.restsOn(a, b), () -> model.restsOn(a, b));
    }

    private boolean orders(int what) {
        int kind = near(0, Math.max(0, tested.count(0) - 1));
        if (what < 74) {
            return compare("best(" + kind + ")", () -> tested.best(kind), () -> model.best(kind));
        }
        if (what < 77) {
            int most = random.nextInt(8) == 0 ? near(1, 60) : near(1, 6);
            return compare("fill(" + kind + ", " + most + ")", () -> tested.fill(kind, most),
                    () -> model.fill(kind, most));
        }
        if (what < 83) {
            int count = random.nextInt(4) == 0 ? near(1, 20) : near(1, 3);
            return compare("addLine(" + kind + ", " + count + ")", () -> tested.addLine(kind, count),
                    () -> model.addLine(kind, count));
        }
        if (what < 85) {
            return compare("stack()", tested::stack, model::stack);
        }
        if (what < 91) {
            int line = near(0, Math.max(0, tested.count(3) - 1));
            boolean isCount = random.nextBoolean();
            return compare("line(" + line + ", " + isCount + ")", () -> tested.line(line, isCount),
                    () -> model.line(line, isCount));
        }
        return random.nextInt(3) != 0 || compare("clear()", tested::clear, model::clear);
    }

    private boolean sums(int what) {
        int which = near(0, 3);
        boolean isY = random.nextBoolean();
        if (what < 94) {
            return compare("count(" + which + ")", () -> tested.count(which), () -> model.count(which));
        }
        if (what < 96) {
            return compare("sum(" + which + ")", () -> tested.sum(which), () -> model.sum(which));
        }
        if (what < 98) {
            return compare("middle(" + isY + ")", () -> tested.middle(isY), () -> model.middle(isY));
        }
        return compare("filled()", tested::filled, model::filled);
    }
}
