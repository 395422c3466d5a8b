/** Counts the answers that are not the ones that are due, and prints them. */
final class Checks {
    private static int wrong = 0;
    private static int asked = 0;

    private Checks() {
    }

    interface Call {
        void run();
    }

    static void same(String what, long got, long due) {
        asked++;
        if (got != due) {
            tell(what + " answered " + got + ", due is " + due);
        }
    }

    static void same(String what, double got, double due) {
        asked++;
        if (Double.compare(got, due) != 0) {
            tell(what + " answered " + got + ", due is " + due);
        }
    }

    static void yes(String what, boolean got) {
        asked++;
        if (!got) {
            tell(what + " does not hold");
        }
    }

    /** The call is due to throw this very class, and to change nothing that the digest tells. */
    static void fails(String what, PalletStack on, Class<? extends RuntimeException> due, Call call) {
        long before = on.digest();
        String got = "nothing";
        try {
            call.run();
        } catch (RuntimeException e) {
            got = e.getClass().getName();
        }
        asked++;
        if (!got.equals(due.getName())) {
            tell(what + " threw " + got + ", due is " + due.getName());
        }
        same(what + " changes nothing: digest()", on.digest(), before);
    }

    static void tell(String text) {
        wrong++;
        System.out.println(text);
    }

    static void end() {
        System.out.println(asked + " answers asked, " + wrong + " wrong");
        if (wrong != 0 || asked == 0) {
            System.exit(1);
        }
    }
}
