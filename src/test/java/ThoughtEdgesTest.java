import java.util.function.ToIntFunction;

/** Edges that the document names of what is only thought, for promises 17 to 23. */
public final class ThoughtEdgesTest {
    private static final int BAD = RopeFerry.BAD;
    private static final int NONE = RopeFerry.NONE;
    private static final int NOTHING = RopeFerry.NOTHING;
    private static final int LOW = Integer.MIN_VALUE;
    private static final int HIGH = Integer.MAX_VALUE;

    public static void main(String[] args) {
        nothingChanges();
        behindNoStepAndAHundred();
        withoutTheBoundOfTheStep();
        howFarAhead();
        slantsTo60();
        slantOfSeveral();
        patienceOfSeveral();
        leftOfSeveral();
        leftIsNeverAboard();
        leftCountsAsEver();
        allOverAtOnce();
        allOverAtTheHundredth();
        slantedOfNoNumbers();
        slantedFromPlace0On();
        slantedToTheLastPlace();
        slantedOfSeveral();
        slantedSigns();
        fineWithoutText();
        fineByText();
        Due.end();
    }

    private static void changesNothing(String what, ToIntFunction<RopeFerry> call) {
        int answer = call.applyAsInt(Ferries.rich());
        Whole.stays(what, Ferries::rich, call, answer);
    }

    /** "All that follows is only thought ...: nothing changes"; so it is with all calls that only tell. */
    private static void nothingChanges() {
        for (int what = 0; what < 2; what++) {
            int which = what;
            changesNothing("16 best", x -> x.best(which));
            changesNothing("18 slant", x -> x.slant(60, which));
            changesNothing("19 patience", x -> x.patience(60, which));
            changesNothing("20 left", x -> x.left(60, which));
            changesNothing("22 slanted", x -> x.slanted(which, which));
            changesNothing("27 textTold", x -> x.textTold(which, which));
        }
        for (int n : new int[] {0, 1, 100}) {
            changesNothing("17 behind", x -> x.behind(n, 0));
        }
        changesNothing("3 told", x -> x.told(0, 5));
        changesNothing("4 as", x -> x.as(1, 0));
        changesNothing("7 boat", x -> x.boat(7));
        changesNothing("9 pull", x -> x.pull(999));
        changesNothing("10 loading", x -> x.loading());
        changesNothing("14 book", x -> x.book(2));
        changesNothing("15 high", x -> x.high());
        changesNothing("21 allOver", x -> x.allOver());
        changesNothing("23 fine", x -> x.fine());
        changesNothing("28 why", x -> x.why(1));
        changesNothing("32 reads", x -> x.reads(0));
        changesNothing("35 ask", x -> x.ask(1, 0));
        changesNothing("36 item", x -> x.item(2, 0));
        changesNothing("37 rest", x -> x.rest(3, 5));
        changesNothing("42 count", x -> x.count(0));
    }

    private static int[] behind(RopeFerry x, int n) {
        return new int[] {x.behind(n, 0), x.behind(n, 1), x.behind(n, 2), x.behind(n, 3), x.behind(n, 4)};
    }

    /** "n (0 .. 100) STEPS": 0 is as it is now, 100 as it comes. */
    private static void behindNoStepAndAHundred() {
        for (int n : new int[] {0, 1, 99, 100}) {
            RopeFerry x = Ferries.rich();
            int[] thought = behind(x, n);
            Ferries.gone(x, n);
            Due.row("behind " + n, thought, x.book(1), x.book(0), x.book(2), x.boat(0), x.boat(3));
        }
        for (int wrong : new int[] {-1, 101, LOW, HIGH}) {
            for (int what = 0; what < 5; what++) {
                Due.be("so far is never thought", Ferries.rich().behind(wrong, what), BAD);
            }
        }
        RopeFerry none = new RopeFerry();
        Due.row("without LOADS", behind(none, 100), 0, 500, 0, 0, Ferries.gone(new RopeFerry(), 100).boat(3));
    }

    /** Two CARTS and a FLOCK; TIME is what went by ahead of them. */
    private static RopeFerry three(RopeFerry x) {
        x.seed(5);
        x.rule(3, 40);
        x.load(0, 20, 0);
        x.load(0, 35, 1);
        x.load(2, 50, 1);
        x.sheet(0, 1, 4);
        for (int k = 0; k < 4; k++) {
            x.mark(0, k, x.book(0) + 13 * k);
        }
        return x;
    }

    /** "Without the bound of THE STEP": at 9999 all is thought as ever. */
    private static void withoutTheBoundOfTheStep() {
        RopeFerry late = three(Ferries.gone(new RopeFerry(), 9999));
        RopeFerry soon = three(new RopeFerry());
        int ahead = late.book(0);
        Due.be("late, THE STEP", late.count(1), 9999);
        Due.be("late, TIME", ahead, 5 * 9999);
        for (int n : new int[] {1, 2, 60, 100}) {
            int[] due = behind(soon, n);
            due[1] += ahead;
            Due.row("behind " + n, behind(late, n), due);
        }
        for (int what = 0; what < 2; what++) {
            Due.be("BEST SLANT", late.slant(60, what), soon.slant(60, what));
            Due.be("PATIENCE", late.patience(60, what), soon.patience(60, what));
            Due.be("LEFT", late.left(60, what), soon.left(60, what));
            Due.be("SLANTED", late.slanted(0, what), soon.slanted(0, what));
        }
        Due.be("ALL OVER", late.allOver(), 4);
        Due.be("ALL OVER", soon.allOver(), 4);
    }

    /** "For n (1 .. 60)" of BEST SLANT, PATIENCE, LEFT. */
    private static void howFarAhead() {
        for (int n : new int[] {1, 60}) {
            RopeFerry x = Ferries.rich();
            Due.holds("18 for " + n, x.slant(n, 0) >= 0 && x.slant(n, 1) >= 0);
            Due.holds("19 for " + n, x.patience(n, 0) >= 0 && x.patience(n, 1) >= x.book(1));
            Due.holds("20 for " + n, x.left(n, 0) >= 0 && x.left(n, 1) >= x.book(1));
        }
        for (int n : new int[] {0, 61, -1, LOW, HIGH}) {
            for (int what = 0; what < 2; what++) {
                Due.be("18 for " + n, Ferries.rich().slant(n, what), BAD);
                Due.be("19 for " + n, Ferries.rich().patience(n, what), BAD);
                Due.be("20 for " + n, Ferries.rich().left(n, what), BAD);
            }
        }
    }

    /** "The SLANT 0 .. 60": the first and the last of them, and none behind. */
    private static void slantsTo60() {
        int[][] stopped = {{0, 0}, {1, 1}, {59, 59}, {60, 60}, {61, 0}, {90, 0}};
        for (int[] row : stopped) {
            RopeFerry x = Ferries.withCarts(1);
            Tape.tell(x, "pull (a<" + row[0] + ")*9999");
            Due.be("18 stopped below " + row[0], x.slant(1, 0), row[0] == 0 || row[0] > 60 ? 0 : row[0]);
            Due.be("18 stopped below " + row[0], x.slant(1, 1), row[0] > 60 ? 10 : 0);
            x.rule(1, 90);
            x.sheet(0, 0, 2);
            x.mark(0, 1, row[0] > 60 ? 60 : crossing(row[0]));
            Due.be("22 stopped below " + row[0], x.slanted(0, 0), row[1]);
            Due.be("22 stopped below " + row[0], x.slanted(0, 1), row[0] > 60 ? 50 : 0);
        }
    }

    private static int crossing(int slant) {
        RopeFerry x = new RopeFerry();
        x.rule(1, slant);
        return x.boat(7);
    }

    /** "WAITS of all behind n STEPS are least together; of several the least." */
    private static void slantOfSeveral() {
        RopeFerry x = Ferries.withCarts(4);
        Due.be("the fourth WAITS 11 with 28 .. 32", x.slant(1, 0), 28);
        Due.be("WAITS", x.slant(1, 1), 11);
        x.set(0, 3, 100);
        x.set(3, 3, 7);
        Due.be("two of 7 and 0 WAIT longer", x.slant(1, 1), 11);
        x.rule(5, 10);
        Due.be("it waits with each", x.slant(1, 0), 0);
        Due.be("it waits with each", x.slant(1, 1), 107 + 20);
        RopeFerry none = new RopeFerry();
        Due.be("no LOADS: each", none.slant(60, 0), 0);
        Due.be("no LOADS: nobody WAITS", none.slant(60, 1), 0);
    }

    /** "The LEAST 0 .. 10 with which TOLLS behind n STEPS are most; of several the least." */
    private static void patienceOfSeveral() {
        for (int least : new int[] {0, 5, 10}) {
            RopeFerry x = Ferries.withCarts(3);
            x.rule(5, least);
            Due.be("each LEAST to 3 brings as much", x.patience(1, 0), 0);
            Due.be("TOLLS, whatever LEAST is now", x.patience(1, 1), 30);
            x.turns(0, 5);
            Due.be("with a DOCTOR each brings as much", x.patience(1, 0), 0);
            Due.be("TOLLS", x.patience(1, 1), 20);
            Due.be("LEAST stays", x.boat(5), least);
        }
        RopeFerry none = new RopeFerry();
        Due.be("no LOADS: each", none.patience(60, 0), 0);
        Due.be("no LOADS: no TOLLS", none.patience(60, 1), 0);
        RopeFerry x = Ferries.withCarts(1);
        x.steps(1);
        x.rule(4, 1);
        Due.be("stopped: the TOLLS that are there", x.patience(60, 1), 10);
    }

    /** "The LOAD without which TOLLS behind n STEPS are most; of several the least." */
    private static void leftOfSeveral() {
        for (int last = 0; last < 10; last++) {
            RopeFerry x = Ferries.withCarts(10);
            x.rule(2, 20);
            x.rule(4, 9999);
            x.set(last, 1, 9);
            Due.be("the lightest is left", x.left(1, 0), last);
            Due.be("TOLLS", x.left(1, 1), 90);
            x.set(last, 1, 10);
            Due.be("of ten alike the least", x.left(1, 0), 0);
            x.set(last, 1, 11);
            Due.be("of nine alike the least", x.left(1, 0), last == 0 ? 1 : 0);
        }
        RopeFerry one = Ferries.withCarts(1);
        one.steps(1);
        Due.be("the only one", one.left(60, 0), 0);
        Due.be("the TOLLS that are there", one.left(60, 1), 10);
        RopeFerry none = new RopeFerry();
        Due.be("NONE", none.left(1, 0), NONE);
        Due.be("NONE", none.left(60, 1), NONE);
    }

    /** "(It never goes aboard, is not asked for ...)": it takes no ROOM, pulls nothing, pays nothing. */
    private static void leftIsNeverAboard() {
        RopeFerry x = Ferries.withCarts(3);
        x.rule(2, 4);
        x.set(0, 3, 50);
        x.set(2, 1, 30);
        Due.be("without 0 the heavy one has ROOM", x.left(1, 1), 40);
        Due.be("0", x.left(1, 0), 0);
        x.rule(2, 6);
        x.rule(4, 240);
        Due.be("without 0 the heavy one pulls not too much", x.left(1, 1), 40);
        x.rule(4, 239);
        Due.be("now it would, so it is left itself", x.left(1, 1), 20);
        Due.be("2", x.left(1, 0), 2);
        RopeFerry alone = Ferries.withCarts(1);
        Due.be("it never goes", alone.left(60, 1), 0);
    }

    /** "It counts on its BANK as ever, a DOCTOR as one." */
    private static void leftCountsAsEver() {
        for (int least = 1; least <= 4; least++) {
            RopeFerry x = Ferries.withCarts(3);
            x.rule(5, least);
            Due.be("three count, LEAST " + least, x.left(1, 1), least <= 3 ? 20 : 0);
        }
        RopeFerry doctor = Ferries.withCarts(2);
        doctor.load(5, 1, 0);
        doctor.rule(5, 10);
        doctor.rule(2, 4);
        doctor.set(0, 1, 40);
        Due.be("nobody waits with a DOCTOR", doctor.left(1, 1), 50);
        Due.be("he himself is left", doctor.left(1, 0), 2);
        RopeFerry rings = Ferries.withCarts(2);
        rings.load(0, 40, 0);
        rings.set(0, 2, 1);
        rings.set(1, 2, 1);
        rings.set(2, 2, 1);
        rings.rule(2, 2);
        Due.be("the boat goes empty for those there, the heavy one comes back", rings.left(2, 1), 10);
        rings.set(2, 3, 1);
        Due.be("the heavy one urges more", rings.left(2, 1), 40);
        RopeFerry lone = new RopeFerry();
        lone.load(0, 10, 1);
        lone.load(0, 30, 0);
        Due.be("over, empty back for the one that is left: no, with the other", lone.left(2, 1), 60);
        Due.be("the one there", lone.left(2, 0), 0);
    }

    /** "Behind how many STEPS (0 .. 100) each LOAD has OVER 1 at least first." */
    private static void allOverAtOnce() {
        Due.be("no LOADS: behind none", new RopeFerry().allOver(), 0);
        RopeFerry x = Ferries.withCarts(2);
        Due.be("behind one", x.allOver(), 1);
        x.steps(1);
        Due.be("behind none", x.allOver(), 0);
        x.steps(3);
        Due.be("OVER more than 1", x.allOver(), 0);
        x.load(0, 10, 1 - x.boat(0));
        Due.be("a new one is there, the boat here", x.allOver(), 2);
        x.rule(4, 1);
        Due.be("stopped", x.allOver(), NONE);
    }

    /** The last that counts is behind 100 STEPS; behind 101 is NONE. */
    private static void allOverAtTheHundredth() {
        int[] due = {99, 100, NONE, NONE};
        boolean[] came = new boolean[4];
        for (int seed = 1; seed < 4000; seed++) {
            RopeFerry x = tooHeavyTillTheStreamFalls(seed);
            int n = 0;
            while (n < 103 && x.told(0, 4) == 0) {
                x.steps(1);
                n++;
            }
            if (n >= 99 && n <= 102) {
                came[n - 99] = true;
                Due.be("over behind " + n, tooHeavyTillTheStreamFalls(seed).allOver(), due[n - 99]);
            }
        }
        Due.holds("each of 99 .. 102 came", came[0] && came[1] && came[2] && came[3]);
    }

    private static RopeFerry tooHeavyTillTheStreamFalls(int seed) {
        RopeFerry x = new RopeFerry();
        x.seed(seed);
        x.load(0, 99, 0);
        x.rule(0, seed & 1);
        x.rule(3, 45);
        x.rule(4, 297);
        return x;
    }

    /** A row without places, and one with NO NUMBER alone, differ from nothing. */
    private static void slantedOfNoNumbers() {
        for (int n : new int[] {0, 1, 24}) {
            RopeFerry x = Ferries.withCarts(1);
            x.rule(1, 77);
            x.sheet(3, 1, n);
            for (int k = 0; k < n; k++) {
                x.mark(3, k, NONE);
            }
            Due.be("of all the least", x.slanted(3, 0), 0);
            Due.be("no differences", x.slanted(3, 1), 0);
        }
        RopeFerry x = new RopeFerry();
        for (int sheet = 0; sheet < 4; sheet++) {
            Due.be("MISSING", x.slanted(sheet, 0), NOTHING);
            Due.be("no such thing", x.slanted(sheet, -1), BAD);
            Due.be("no such thing", x.slanted(sheet, 2), BAD);
        }
        Due.be("no such SHEET", x.slanted(-1, 0), BAD);
        Due.be("no such SHEET", x.slanted(4, 0), BAD);
    }

    /** "(k from 0 on)": place 0 is TIME now, a place of NO NUMBER is a STEP too. */
    private static void slantedFromPlace0On() {
        RopeFerry x = Ferries.withCarts(1);
        x.steps(2);
        int now = x.book(0);
        x.rule(3, 40);
        x.sheet(0, 1, 1);
        x.mark(0, 0, now + 9);
        Due.be("place 0 differs by 9 with each", x.slanted(0, 1), 9);
        Due.be("of all the least", x.slanted(0, 0), 0);
        x.sheet(0, 1, 2);
        x.mark(0, 0, NONE);
        x.mark(0, 1, now + 20);
        Due.be("20 minutes are 40 * 13 / 30", x.slanted(0, 0), 13);
        Due.be("place 1 alone", x.slanted(0, 1), 0);
        x.mark(0, 0, now - 3);
        Due.be("and place 0", x.slanted(0, 1), 3);
    }

    private static void slantedToTheLastPlace() {
        RopeFerry x = Ferries.withCarts(1);
        x.sheet(0, 1, 24);
        for (int k = 0; k < 23; k++) {
            x.mark(0, k, NONE);
        }
        for (int slant : new int[] {5, 6}) {
            RopeFerry y = Ferries.withCarts(1);
            y.rule(1, slant);
            y.steps(23);
            x.mark(0, 23, y.book(0));
            Due.be("TIME behind 23 STEPS with SLANT " + slant, x.slanted(0, 0), slant);
            Due.be("as it is", x.slanted(0, 1), 0);
        }
    }

    /** "Of several the least." */
    private static void slantedOfSeveral() {
        int[][] due = {{11, 28, 0}, {12, 25, 0}, {60, 0, 0}, {54, 4, 0}, {7, 28, 4}, {99, 0, 39}, {0, 28, 11}};
        for (int[] row : due) {
            RopeFerry x = Ferries.withCarts(1);
            x.sheet(1, 0, 2);
            x.mark(1, 1, row[0]);
            Due.be(row[0] + " minutes, the SLANT", x.slanted(1, 0), row[1]);
            Due.be(row[0] + " minutes, the differences", x.slanted(1, 1), row[2]);
        }
    }

    /** "(Signs left out), together": what is more and what is less do not make up for one another. */
    private static void slantedSigns() {
        RopeFerry x = Ferries.withCarts(1);
        x.rule(4, 1);
        x.sheet(0, 1, 3);
        int[] places = {-50, 60, 20};
        for (int k = 0; k < 3; k++) {
            x.mark(0, k, places[k]);
        }
        Due.be("50 more, 50 less, the same", x.slanted(0, 1), 100);
        x.mark(0, 0, 99999);
        x.mark(0, 1, -99999);
        x.mark(0, 2, 99999);
        Due.be("the furthest", x.slanted(0, 1), 99999 + 100009 + 99979);
    }

    /** "Without a TEXT: TOLLS." */
    private static void fineWithoutText() {
        RopeFerry x = Ferries.withCarts(1);
        Due.be("no TOLLS", x.fine(), 0);
        x.steps(1);
        Due.be("TOLLS", x.fine(), 10);
        Tape.tell(x, "toll 7");
        Tape.tell(x, "pull 7");
        Due.be("TEXTS of other KEYS are none of fine", x.fine(), 10);
    }

    /** "What fine gives" is not held, and "ints wrap". */
    private static void fineByText() {
        RopeFerry x = Ferries.withCarts(1);
        x.steps(1);
        String[] texts = {"t", "p", "0-t", "(0-4096)*4096*128", "(0-4096)*4096*128-1", "p-t", "t*0"};
        int[] due = {11, 10, -11, LOW, HIGH, -1, 0};
        for (int i = 0; i < texts.length; i++) {
            Tape.tell(x, "fine " + texts[i]);
            Due.be("fine " + texts[i], x.fine(), due[i]);
        }
    }
}
