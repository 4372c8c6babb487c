/** Promises 17 to 23: what will be. Each is held against a ferry that goes there. */
public final class ThoughtTest {
    private static final int BAD = RopeFerry.BAD;
    private static final int NONE = RopeFerry.NONE;
    private static final int NOTHING = RopeFerry.NOTHING;
    private static final int LOW = Integer.MIN_VALUE;
    private static final int HIGH = Integer.MAX_VALUE;

    public static void main(String[] args) {
        behind();
        slant();
        patience();
        left();
        leftCountsOnItsBank();
        allOver();
        slanted();
        slantedEdges();
        fine();
        badOnes();
        nothingChanges();
        Due.end();
    }

    private static RopeFerry ferry(int seed) {
        RopeFerry x = new RopeFerry();
        x.seed(seed);
        x.deal(3 + (seed & 7));
        x.steps(1 + (seed & 15));
        if ((seed & 1) == 1) {
            Tape.tell(x, "toll w*(1+v/30)+s");
        }
        if ((seed & 2) == 2) {
            Tape.tell(x, "pull s*(w+20)/10+(s>45)*a");
        }
        return x;
    }

    private static int gone(RopeFerry x, int n) {
        return n == 0 ? 0 : x.steps(n);
    }

    private static void behind() {
        for (int seed = 1; seed <= 16; seed++) {
            for (int n : new int[] {0, 1, 7, 60, 100}) {
                RopeFerry x = ferry(seed);
                int[] thought = {x.behind(n, 0), x.behind(n, 1), x.behind(n, 2), x.behind(n, 3), x.behind(n, 4)};
                gone(x, n);
                Due.row("17 behind " + n, thought, x.book(1), x.book(0), x.book(2), x.boat(0), x.boat(3));
            }
        }
    }

    private static void slant() {
        for (int seed = 1; seed <= 8; seed++) {
            for (int n : new int[] {1, 9, 60}) {
                int found = -1;
                int least = 0;
                for (int slant = 0; slant <= 60; slant++) {
                    RopeFerry y = ferry(seed);
                    y.rule(1, slant);
                    y.steps(n);
                    if (found < 0 || y.book(2) < least) {
                        found = slant;
                        least = y.book(2);
                    }
                }
                Due.be("18 the SLANT for " + n, ferry(seed).slant(n, 0), found);
                Due.be("18 WAITS for " + n, ferry(seed).slant(n, 1), least);
            }
        }
        RopeFerry x = new RopeFerry();
        x.load(0, 10, 1);
        x.rule(1, 90);
        Due.be("18 40 * 28 / 30 is 37, 300 / 38 is 7, as at 30", x.slant(1, 0), 28);
        Due.be("18 WAITS", x.slant(1, 1), 11);
        x.rule(4, 1);
        Due.be("18 stopped: of several the least", x.slant(1, 0), 0);
        x.rule(0, 1);
        Tape.tell(x, "pull (a<60)*9999");
        Due.be("18 60 too", x.slant(1, 0), 60);
        Due.be("18 with it nobody waits", x.slant(1, 1), 0);
        Tape.tell(x, "pull (a<61)*9999");
        Due.be("18 no more than 60", x.slant(1, 0), 0);
        x.sheet(0, 0, 2);
        x.mark(0, 1, 60);
        Due.be("22 no more than 60", x.slanted(0, 0), 0);
        Due.be("22 10 minutes, not 60", x.slanted(0, 1), 50);
        Tape.tell(x, "pull (a<60)*9999");
        Due.be("22 60 too", x.slanted(0, 0), 60);
        Due.be("22 no differences", x.slanted(0, 1), 0);
    }

    private static void patience() {
        for (int seed = 1; seed <= 16; seed++) {
            for (int n : new int[] {1, 9, 60}) {
                int found = -1;
                int most = 0;
                for (int least = 0; least <= 10; least++) {
                    RopeFerry y = ferry(seed);
                    y.rule(5, least);
                    y.steps(n);
                    if (found < 0 || y.book(1) > most) {
                        found = least;
                        most = y.book(1);
                    }
                }
                Due.be("19 LEAST for " + n, ferry(seed).patience(n, 0), found);
                Due.be("19 TOLLS for " + n, ferry(seed).patience(n, 1), most);
            }
        }
        // A ferryman who waits waits on, for nobody comes meanwhile: no LEAST brings more than 0 does.
        RopeFerry x = new RopeFerry();
        x.load(0, 10, 0);
        x.set(0, 3, 50);
        Tape.tell(x, "toll v");
        Due.be("19 to go now is best", x.patience(1, 0), 0);
        Due.be("19 TOLLS", x.patience(1, 1), 50);
        x.load(0, 1, 1);
        x.set(1, 3, 20);
        Due.be("19 of several the least", x.patience(1, 0), 0);
    }

    private static void left() {
        RopeFerry x = new RopeFerry();
        Due.be("20 no LOADS", x.left(5, 0), NONE);
        Due.be("20 no LOADS", x.left(5, 1), NONE);
        Due.be("20 BAD stands ahead", x.left(0, 0), BAD);
        x.load(0, 10, 0);
        Due.be("20 the only one", x.left(5, 0), 0);
        Due.be("20 without it nothing is paid", x.left(5, 1), 0);
        x.load(0, 30, 0);
        x.load(0, 25, 0);
        Due.be("20 without the lightest", x.left(1, 0), 0);
        Due.be("20 TOLLS", x.left(1, 1), 55);
        x.set(1, 1, 31);
        Due.be("20 30 would have pulled 300, 31 pulls too much", x.left(1, 1), 41);
        Due.be("20 without the last", x.left(1, 0), 2);
    }

    /** A LOAD that is left out is never aboard, but the ferryman counts it, and a DOCTOR among them. */
    private static void leftCountsOnItsBank() {
        RopeFerry x = new RopeFerry();
        x.load(0, 10, 0);
        x.load(0, 10, 0);
        x.rule(5, 2);
        Due.be("20 both count, one goes", x.left(1, 1), 10);
        Due.be("20 of several the least", x.left(1, 0), 0);
        RopeFerry y = new RopeFerry();
        y.load(5, 10, 0);
        y.load(0, 40, 0);
        y.rule(5, 10);
        Due.be("20 for a DOCTOR who is left the boat goes", y.left(1, 1), 40);
        Due.be("20 the DOCTOR", y.left(1, 0), 0);
        RopeFerry w = new RopeFerry();
        w.load(0, 10, 1);
        w.load(0, 20, 0);
        w.rule(5, 1);
        Due.be("20 three times over without the other", w.left(3, 1), 60);
        Due.be("20 the lighter", w.left(3, 0), 0);
    }

    private static void allOver() {
        RopeFerry x = new RopeFerry();
        Due.be("21 no LOADS", x.allOver(), 0);
        x.load(0, 10, 0);
        Due.be("21 one", x.allOver(), 1);
        x.load(0, 10, 1);
        Due.be("21 two", x.allOver(), 2);
        x.load(0, 99, 1);
        Due.be("21 too heavy", x.allOver(), NONE);
        x.rule(4, 9999);
        Due.be("21 all at once back", x.allOver(), 2);
        x.steps(2);
        Due.be("21 all have been", x.allOver(), 0);
        for (int seed = 1; seed <= 40; seed++) {
            int due = NONE;
            for (int n = 0; n <= 100 && due == NONE; n++) {
                due = allHaveBeen(Ferries.gone(ferry(seed), n)) ? n : NONE;
            }
            Due.be("21 as it comes", ferry(seed).allOver(), due);
        }
    }

    private static boolean allHaveBeen(RopeFerry x) {
        for (int i = 0; i < x.count(0); i++) {
            if (x.told(i, 4) == 0) {
                return false;
            }
        }
        return true;
    }

    private static void slanted() {
        for (int seed = 1; seed <= 8; seed++) {
            RopeFerry x = ferry(seed);
            int places = 3 * seed;
            int now = x.book(0);
            x.sheet(2, seed % 2, places);
            for (int k = 0; k < places; k++) {
                x.mark(2, k, now + k * (9 + seed * 3));
            }
            if (seed % 2 == 1) {
                x.mark(2, 1, NONE);
            }
            int found = -1;
            int least = 0;
            for (int slant = 0; slant <= 60; slant++) {
                RopeFerry y = ferry(seed);
                y.rule(1, slant);
                int sum = 0;
                for (int k = 0; k < places; k++) {
                    boolean isNumber = seed % 2 == 0 || k != 1;
                    int place = now + k * (9 + seed * 3);
                    sum += isNumber ? Math.abs(y.book(0) - place) : 0;
                    y.steps(1);
                }
                if (found < 0 || sum < least) {
                    found = slant;
                    least = sum;
                }
            }
            Due.be("22 the SLANT", x.slanted(2, 0), found);
            Due.be("22 the differences", x.slanted(2, 1), least);
        }
    }

    private static void slantedEdges() {
        RopeFerry x = new RopeFerry();
        x.sheet(0, 0, 0);
        Due.be("22 no places: the least", x.slanted(0, 0), 0);
        Due.be("22 no places: no differences", x.slanted(0, 1), 0);
        x.rule(5, 0);
        x.sheet(1, 1, 2);
        x.mark(1, 0, -7);
        x.mark(1, 1, 20);
        Due.be("22 40 * 13 / 30 is 17, 4 and 300 / 18 is 20", x.slanted(1, 0), 13);
        Due.be("22 7 behind no STEP", x.slanted(1, 1), 7);
        x.mark(1, 1, 99999);
        Due.be("22 as late as can be", x.slanted(1, 0), 0);
        Due.be("22 as late as can be", x.slanted(1, 1), 7 + 99939);
        for (int wrong : new int[] {-1, 4, LOW, HIGH}) {
            Due.be("22 BAD sheet", x.slanted(wrong, 0), BAD);
        }
        for (int wrong : new int[] {-1, 2, LOW, HIGH}) {
            Due.be("22 BAD what", x.slanted(0, wrong), BAD);
            Due.be("22 BAD stands ahead of NOTHING", x.slanted(3, wrong), BAD);
        }
        Due.be("22 NOTHING", x.slanted(3, 0), NOTHING);
    }

    private static void fine() {
        RopeFerry x = new RopeFerry();
        x.load(0, 10, 0);
        Due.be("23 TOLLS at first", x.fine(), 0);
        x.steps(2);
        Due.be("23 TOLLS", x.fine(), 20);
        Tape.tell(x, "fine t*1000-p");
        Due.be("23 by a text", x.fine(), x.book(0) * 1000 - 20);
        Tape.tell(x, "fine 0-9999*9999*9999*9999");
        Due.be("23 it is not held, and wraps", x.fine(), -(9999 * 9999 * 9999 * 9999));
    }

    private static void badOnes() {
        RopeFerry x = new RopeFerry();
        x.load(0, 10, 0);
        for (int n : new int[] {-1, 101, LOW, HIGH}) {
            Due.be("17 BAD n", x.behind(n, 0), BAD);
        }
        for (int what : new int[] {-1, 5, LOW, HIGH}) {
            Due.be("17 BAD what", x.behind(0, what), BAD);
        }
        for (int n : new int[] {0, 61, -1, LOW, HIGH}) {
            Due.be("18 BAD n", x.slant(n, 0), BAD);
            Due.be("19 BAD n", x.patience(n, 0), BAD);
            Due.be("20 BAD n", x.left(n, 0), BAD);
        }
        for (int what : new int[] {-1, 2, LOW, HIGH}) {
            Due.be("18 BAD what", x.slant(1, what), BAD);
            Due.be("19 BAD what", x.patience(1, what), BAD);
            Due.be("20 BAD what", x.left(1, what), BAD);
        }
    }

    private static void nothingChanges() {
        RopeFerry x = ferry(7);
        x.sheet(0, 0, 24);
        int[] ahead = all(x);
        x.behind(100, 0);
        x.slant(60, 1);
        x.patience(60, 1);
        x.left(60, 1);
        x.allOver();
        x.slanted(0, 1);
        x.fine();
        x.high();
        x.best(0);
        x.loading();
        Due.row("17 to 23: only thought", all(x), ahead);
        int thought = x.behind(9, 0);
        int count = x.loading();
        x.left(9, 0);
        Due.be("20 who is left is left in this thought alone", x.behind(9, 0), thought);
        Due.be("20 who is left is left in this thought alone", x.loading(), count);
        int tolls = x.book(1);
        x.steps(9);
        Due.be("17 as thought", x.book(1), thought);
        Due.holds("17 something was paid", thought > tolls);
    }

    private static int[] all(RopeFerry x) {
        int[] row = new int[120];
        int at = 0;
        for (int i = 0; i < 8; i++) {
            row[at++] = x.count(i);
            row[at++] = x.boat(i);
            row[at++] = x.book(i);
        }
        for (int load = 0; load < x.count(0); load++) {
            for (int what = 0; what < 9; what++) {
                row[at++] = x.told(load, what);
            }
        }
        return row;
    }
}
