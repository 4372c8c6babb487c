/** Counts answers that are as due and prints those that are not. */
final class Due {
    private static int right = 0;
    private static int wrong = 0;

    private Due() {
    }

    static void be(String what, long got, long want) {
        if (got == want) {
            right++;
        } else {
            wrong++;
            System.out.println(what + ": answered " + got + ", due is " + want);
        }
    }

    static void holds(String what, boolean is) {
        be(what, is ? 1 : 0, 1);
    }

    /** The answers of many calls, in their order. */
    static void row(String what, int[] got, int... want) {
        be(what + ", how many", got.length, want.length);
        for (int i = 0; i < Math.min(got.length, want.length); i++) {
            be(what + ", at " + i, got[i], want[i]);
        }
    }

    static void end() {
        System.out.println(right + " passed, " + wrong + " failed");
        if (wrong != 0) {
            System.exit(1);
        }
    }
}
