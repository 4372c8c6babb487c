import java.util.function.Consumer;

/** Edges that the document names of rows and of AN IMAGE, for promises 38 to 42. */
public final class ImageEdgesTest {
    private static final int BAD = RopeFerry.BAD;
    private static final int NO = RopeFerry.NO;
    private static final int FULL = RopeFerry.FULL;
    private static final int NONE = RopeFerry.NONE;
    private static final int NOTHING = RopeFerry.NOTHING;
    private static final int LOW = Integer.MIN_VALUE;
    private static final int HIGH = Integer.MAX_VALUE;

    public static void main(String[] args) {
        sixtyWait();
        rightMissingOrTooMany();
        anyOneOtherwise();
        noneToldIsMissing();
        fewerNearTheLastStep();
        noneWaitThen();
        byTheImageAlone();
        noImage();
        eachThatIsKept();
        againAndAgain();
        emptyAndFullImages();
        whatIsNotKept();
        countsAtTheirEnds();
        Due.end();
    }

    /** "FULL: 60 wait." */
    private static void sixtyWait() {
        RopeFerry x = new RopeFerry();
        for (int many = 1; many <= 60; many++) {
            Due.be("one more waits", x.tell(LOW), many);
            Due.be("how many", x.count(5), many);
        }
        for (int i = 0; i < 2; i++) {
            Due.be("the sixty-first", x.tell(1), FULL);
            Due.be("sixty stay", x.count(5), 60);
        }
        x.check(1);
        Due.be("none waits: one more can", x.tell(1), 1);
    }

    private static RopeFerry kept() {
        RopeFerry x = Ferries.withCarts(1);
        x.load(1, 20, 1);
        x.keep();
        return x;
    }

    /** THE STEPS TOLD, from what would be behind so many STEPS. */
    private static int[] stepsTold(RopeFerry x, int n) {
        int[] row = new int[2 * n];
        for (int i = 0; i < n; i++) {
            row[2 * i] = x.behind(i + 1, 1);
            row[2 * i + 1] = x.behind(i + 1, 0);
        }
        return row;
    }

    private static void tell(RopeFerry x, int[] row, int many) {
        for (int i = 0; i < many; i++) {
            x.tell(i < row.length ? row[i] : 7);
        }
    }

    /** "1 and how many stand right ahead of the first that is not (or is missing, or one too many)." */
    private static void rightMissingOrTooMany() {
        for (int n : new int[] {1, 2, 29, 30}) {
            int[] row = stepsTold(kept(), n);
            for (int many = 0; many <= 60; many++) {
                RopeFerry x = kept();
                tell(x, row, many);
                int due = many == 2 * n ? 0 : 1 + Math.min(many, 2 * n);
                Due.be(many + " of THE STEPS TOLD of " + n, x.check(n), due);
                Due.be("none wait then", x.count(5), 0);
            }
        }
    }

    private static void anyOneOtherwise() {
        int[] row = stepsTold(kept(), 30);
        for (int at = 0; at < 60; at++) {
            for (int by : new int[] {1, -1, LOW}) {
                RopeFerry x = kept();
                int[] otherwise = row.clone();
                otherwise[at] += by;
                tell(x, otherwise, 60);
                Due.be("the one at " + at + " is not", x.check(30), 1 + at);
            }
        }
        RopeFerry x = kept();
        int[] swapped = {row[1], row[0]};
        tell(x, swapped, 2);
        Due.be("TOLLS ahead of TIME", x.check(1), 1);
        tell(x, row, 1);
        x.tell(row[1] + 1);
        tell(x, row, 5);
        Due.be("the first of several that are not", x.check(3), 2);
    }

    private static void noneToldIsMissing() {
        for (int n : new int[] {1, 30}) {
            Due.be("the first is missing", kept().check(n), 1);
        }
        for (int wrong : new int[] {0, 31, -1, LOW, HIGH}) {
            Due.be("so many are never told", kept().check(wrong), BAD);
        }
    }

    /** "(1 .. 30; fewer, if THE STEP would be above 9999)." */
    private static void fewerNearTheLastStep() {
        for (int left : new int[] {0, 1, 2, 29, 30, 31}) {
            for (int n : new int[] {1, 2, 30}) {
                int due = Math.min(left, n);
                RopeFerry x = lastSteps(left);
                int[] row = stepsTold(x, 30);
                tell(x, row, 2 * due);
                Due.be(n + " where " + left + " are left", x.check(n), 0);
                if (due < 30) {
                    tell(x, row, 2 * due + 1);
                    Due.be("one too many", x.check(n), 2 * due + 1);
                }
                if (due > 0) {
                    tell(x, row, 2 * due - 1);
                    Due.be("one is missing", x.check(n), 2 * due);
                }
            }
        }
    }

    private static RopeFerry lastSteps(int left) {
        RopeFerry x = Ferries.gone(Ferries.withCarts(1), 9999 - left);
        x.keep();
        return x;
    }

    /** "(none do then, whatever is answered)." */
    private static void noneWaitThen() {
        for (int n : new int[] {1, 2, 30, 0, 31, LOW, HIGH}) {
            for (int image = 0; image < 2; image++) {
                RopeFerry x = image == 1 ? kept() : new RopeFerry();
                tell(x, stepsTold(x, 1), 2);
                x.check(n);
                Due.be("behind check(" + n + ")", x.count(5), 0);
                Due.be("the next is the first", x.tell(5), 1);
            }
        }
    }

    /** "THE STEPS TOLD: of n STEPS, one behind the other, by THE IMAGE." */
    private static void byTheImageAlone() {
        RopeFerry x = kept();
        int[] row = stepsTold(x, 3);
        x.steps(7);
        x.seed(3);
        x.load(5, 1, 1);
        x.rule(1, 3);
        Tape.tell(x, "toll 900");
        tell(x, row, 6);
        Due.be("whatever came since", x.check(3), 0);
        int[] later = stepsTold(x, 3);
        tell(x, later, 6);
        Due.holds("not as it is now", x.check(3) > 0);
        x.keep();
        tell(x, later, 6);
        Due.be("as it is now, kept", x.check(3), 0);
        tell(x, row, 6);
        Due.be("THE IMAGE ahead of it is gone", x.check(3), 1);
        int[] state = LoadTest.counts(x);
        int[] book = LoadTest.books(x);
        x.check(30);
        Due.row("nothing changes", LoadTest.counts(x), state);
        Due.row("nothing changes", LoadTest.books(x), book);
    }

    /** "NO: there is no IMAGE"; "NO: there is none." */
    private static void noImage() {
        RopeFerry x = Ferries.withCarts(3);
        Due.be("back", x.back(), NO);
        Due.be("check", x.check(1), NO);
        Due.be("check", x.check(30), NO);
        Due.be("check", x.check(0), BAD);
        Due.be("check", x.check(31), BAD);
        Due.be("LOADS stay", x.count(0), 3);
        Due.be("keep", x.keep(), 3);
        Due.be("back", x.back(), 3);
        Due.be("check", x.check(1), 1);
    }

    private static int[] world(RopeFerry x) {
        int[] row = new int[40];
        int at = 0;
        for (int what = 0; what < 8; what++) {
            row[at++] = x.boat(what);
            row[at++] = what == 5 || what == 6 ? 0 : x.count(what);
        }
        for (int what = 0; what < 4; what++) {
            row[at++] = x.book(what);
            row[at++] = x.why(what);
        }
        for (int what = 0; what < 9; what++) {
            row[at++] = x.told(1, what);
        }
        row[at++] = x.fine();
        row[at++] = x.pull(20);
        row[at++] = x.behind(20, 0);
        return row;
    }

    /** "AN IMAGE keeps all but ...": each thing by itself, and all is as it was when it was kept. */
    private static void eachThatIsKept() {
        comesBack("a LOAD", x -> x.load(0, 5, 0));
        comesBack("LOADS that are drawn", x -> x.deal(3));
        comesBack("KIND", x -> x.turns(1, 4));
        comesBack("WEIGHT", x -> x.set(1, 1, 99));
        comesBack("BANK", x -> x.set(1, 2, 0));
        comesBack("WAITS", x -> x.set(1, 3, 999));
        comesBack("SIDE", x -> x.rule(0, 1 - x.boat(0)));
        int[] others = {0, 77, 9, 88, 999, 7};
        for (int what = 1; what < 6; what++) {
            int which = what;
            comesBack("rule " + what, x -> x.rule(which, others[which]));
        }
        comesBack("z", x -> x.seed(99));
        comesBack("a STEP", x -> x.steps(1));
        comesBack("a hundred STEPS", x -> x.steps(100));
        comesBack("a TEXT of toll", x -> Tape.tell(x, "toll 900"));
        comesBack("a TEXT of pull", x -> Tape.tell(x, "pull 9"));
        comesBack("a TEXT of fine", x -> Tape.tell(x, "fine 9"));
        comesBack("WEIGHTS that are poured", x -> x.pour(0));
    }

    private static void comesBack(String what, Consumer<RopeFerry> change) {
        RopeFerry x = Ferries.rich(true, false);
        x.keep();
        int[] kept = world(x);
        change.accept(x);
        Due.holds(what + " is otherwise", !java.util.Arrays.equals(world(x), kept));
        Due.be(what + " comes back", x.back(), 3);
        Due.row(what + " comes back", world(x), kept);
    }

    /** "All can become as it is (again and again)": and what comes behind it is not kept. */
    private static void againAndAgain() {
        RopeFerry x = Ferries.rich(true, false);
        x.keep();
        int[] kept = world(x);
        for (int i = 0; i < 4; i++) {
            x.back();
            x.steps(10 + i);
            x.set(0, 1, 90 + i);
            Tape.tell(x, "fine " + i);
            Due.be("this turn's TEXT", x.fine(), i);
        }
        Due.be("the last time", x.back(), 3);
        Due.be("twice", x.back(), 3);
        Due.row("as it was kept", world(x), kept);
    }

    /** "How many LOADS": 0 and 10; the second IMAGE takes the place of the first. */
    private static void emptyAndFullImages() {
        RopeFerry x = new RopeFerry();
        Due.be("of none", x.keep(), 0);
        x.deal(10);
        Tape.tell(x, "fine 5");
        x.steps(50);
        Due.be("to none", x.back(), 0);
        Due.row("as it was new", LoadTest.counts(x), 0, 0, 0, 0, 0, 0, 0, 1);
        Due.row("as it was new", LoadTest.boats(x), 0, 30, 6, 40, 300, 1, 30, 11);
        Due.row("as it was new", LoadTest.books(x), 0, 0, 0, 0);
        Due.be("as it was new", x.told(0, 0), BAD);
        Due.be("as it was new", x.why(2), NONE);
        x.deal(10);
        Due.be("of ten", x.keep(), 10);
        x.back();
        Due.be("ten are there", x.load(0, 1, 0), FULL);
        Due.be("to ten", x.back(), 10);
    }

    /** "All but SHEETS, SLOTS, numbers that wait, THE TAPE": these stay as they are now. */
    private static void whatIsNotKept() {
        RopeFerry x = Ferries.rich();
        x.keep();
        x.sheet(0, 1, 1);
        x.mark(0, 0, 44);
        x.sheet(1, -1, 0);
        x.sheet(3, 0, 2);
        x.lay(0, 3, 21);
        x.lay(1, 0, 0);
        x.tell(9);
        x.trim(6);
        x.back();
        Due.be("SHEET 0", x.lay(4, 2, 0), 2);
        Due.be("SHEET 0", x.item(4, 0), 44);
        Due.be("SHEET 0", x.item(4, 1), RopeFerry.INDEX);
        Due.be("SHEET 1", x.reads(1), NOTHING);
        Due.be("SHEET 3", x.mark(3, 1, 1), 1);
        Due.be("SLOT 0", x.rest(0, 100), 21);
        Due.be("SLOT 1", x.ask(1, 0), NOTHING);
        Due.be("SLOT 2", x.item(2, 0), 8);
        Due.be("numbers that wait", x.count(5), 5);
        Due.be("THE TAPE", x.count(6), 6);
        Due.be("THE TAPE is fine p", x.text(), 3);
        Due.be("fine p", x.fine(), x.book(1));
    }

    /** What count tells, where there is nothing and where there can be no more. */
    private static void countsAtTheirEnds() {
        RopeFerry x = new RopeFerry();
        Due.row("nothing", LoadTest.counts(x), 0, 0, 0, 0, 0, 0, 0, 1);
        for (int load = 0; load < 10; load++) {
            x.load(0, 1, 0);
        }
        Ferries.gone(x, 9999);
        for (int text = 0; text < 14; text++) {
            Tape.tell(x, "fine 1");
        }
        for (int i = 0; i < 60; i++) {
            x.tell(i);
        }
        Tape.put(x, " ".repeat(96));
        for (int load = 0; load < 10; load++) {
            x.set(load, 2, 0);
        }
        x.rule(0, 0);
        x.seed(LOW);
        Due.row("all on BANK 0, SIDE 0", LoadTest.counts(x), 10, 9999, 10, 10, 14, 60, 96, LOW);
        x.rule(0, 1);
        Due.row("all on BANK 0, SIDE 1", LoadTest.counts(x), 10, 9999, 10, 0, 14, 60, 96, LOW);
        for (int load = 0; load < 9; load++) {
            x.set(load, 2, 1);
        }
        x.seed(HIGH);
        Due.row("one on BANK 0, SIDE 1", LoadTest.counts(x), 10, 9999, 1, 9, 14, 60, 96, HIGH);
        for (int wrong : new int[] {-1, 8, LOW, HIGH}) {
            Due.be("no such thing", x.count(wrong), BAD);
        }
    }
}
