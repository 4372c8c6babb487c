/** Ferries to try calls on: in the rich one something stands wherever a call could change something. */
final class Ferries {
    /** What THE TAPE of the rich one holds: a TEXT that is told if nothing came to it. */
    static final String ON_TAPE = "fine p-t";
    /** THE STEPS TOLD of so many wait in the rich one. */
    static final int STEPS_TOLD = 2;

    private Ferries() {
    }

    static RopeFerry rich() {
        return rich(true, true);
    }

    /** Three LOADS, three TEXTS, SHEETS and SLOTS of each sort, an IMAGE that is left behind; rows if they are wanted. */
    static RopeFerry rich(boolean withNumbers, boolean withTape) {
        RopeFerry x = new RopeFerry();
        x.seed(11);
        x.load(0, 20, 0);
        x.load(1, 30, 1);
        x.load(4, 9, 0);
        x.set(0, 3, 7);
        int[] rules = {0, 25, 7, 41, 350, 2};
        for (int what = 0; what < rules.length; what++) {
            x.rule(what, rules[what]);
        }
        Tape.tell(x, "toll w+v");
        Tape.tell(x, "fine t*2+p");
        x.keep();
        for (int n = 1; withNumbers && n <= STEPS_TOLD; n++) {
            x.tell(x.behind(n, 1));
            x.tell(x.behind(n, 0));
        }
        x.steps(3);
        x.turns(2, 3);
        x.set(1, 1, 31);
        Tape.tell(x, "pull s*(w+a)/20");
        sheetsAndSlots(x);
        if (withTape) {
            Tape.put(x, ON_TAPE);
        }
        return x;
    }

    /** SHEET 0 of shorts, 1 of floats, 2 without places, 3 MISSING; SLOT 0 with nothing, then a LOAD, a row, a number. */
    private static void sheetsAndSlots(RopeFerry x) {
        x.sheet(0, 0, 3);
        x.mark(0, 0, 5);
        x.mark(0, 1, -7);
        x.mark(0, 2, 300);
        x.sheet(1, 1, 3);
        x.mark(1, 0, 8);
        x.mark(1, 1, RopeFerry.NONE);
        x.mark(1, 2, -99);
        x.sheet(2, 1, 0);
        x.lay(1, 1, 1);
        x.lay(2, 2, 1);
        x.lay(3, 3, 17);
        x.lay(4, 2, 0);
    }

    /** So many CARTS of WEIGHT 10 on BANK 0. */
    static RopeFerry withCarts(int many) {
        RopeFerry x = new RopeFerry();
        for (int i = 0; i < many; i++) {
            x.load(0, 10, 0);
        }
        return x;
    }

    /** A ferry that has gone so many STEPS. */
    static RopeFerry gone(RopeFerry x, int steps) {
        for (int left = steps; left > 0; left -= 100) {
            x.steps(Math.min(left, 100));
        }
        return x;
    }

    /** The least z of those tried behind which a draw's rest by so many is the one that is wanted. */
    static int seedFor(int rest, int by) {
        int z = 1;
        while (drawn(z) % by != rest) {
            z++;
        }
        return z;
    }

    static int next(int z) {
        return z * 1103515245 + 12345;
    }

    static int drawn(int z) {
        return next(z) >>> 8;
    }
}
