/** Promises 13 to 16: steps. */
public final class StepTest {
    private static final int BAD = RopeFerry.BAD;
    private static final int NONE = RopeFerry.NONE;
    private static final int LOW = Integer.MIN_VALUE;
    private static final int HIGH = Integer.MAX_VALUE;

    public static void main(String[] args) {
        badSteps();
        itIsStopped();
        itWaits();
        itGoesOverEmpty();
        aDoctorIsNotWaitedWith();
        itGoesOver();
        whatIsPaidAsItWasAhead();
        theStreamChanges();
        noMoreStepsThanThereAre();
        book();
        high();
        best();
        bestOfSeveral();
        Due.end();
    }

    private static void badSteps() {
        RopeFerry x = new RopeFerry();
        for (int wrong : new int[] {0, 101, -1, LOW, HIGH}) {
            Due.be("13 BAD", x.steps(wrong), BAD);
        }
        Due.be("13 BAD changes nothing", x.count(1), 0);
        Due.be("13 the most", x.steps(100), 0);
        Due.be("13 THE STEP", x.count(1), 100);
        Due.be("13 5 minutes each", x.book(0), 500);
    }

    private static void itIsStopped() {
        RopeFerry x = new RopeFerry();
        x.load(5, 10, 0);
        x.load(0, 10, 1);
        x.set(1, 3, 7);
        x.rule(4, 79);
        Due.be("13 stopped, 80 is above 79", x.steps(1), 0);
        Due.row("13 stopped, book", LoadTest.books(x), 10, 0, 27, 0);
        Due.be("13 stopped, SIDE", x.boat(0), 0);
        Due.be("13 stopped, WAITS of a DOCTOR", x.told(0, 3), 10);
        Due.be("13 stopped, WAITS on the other BANK", x.told(1, 3), 17);
        RopeFerry y = new RopeFerry();
        y.load(5, 10, 0);
        y.rule(4, 80);
        y.steps(1);
        Due.be("13 not stopped, 80 is not above 80", y.book(0), 11);
        Due.be("13 the DOCTOR pulls too much", y.told(0, 4), 0);
        Due.be("13 and the boat is over without", y.boat(0), 1);
    }

    private static void itWaits() {
        RopeFerry x = new RopeFerry();
        x.load(0, 10, 0);
        x.load(0, 10, 1);
        x.rule(5, 2);
        Due.be("13 one here, one there: it waits", x.steps(1), 0);
        Due.row("13 5 minutes", LoadTest.books(x), 5, 0, 10, 0);
        Due.be("13 SIDE stays", x.boat(0), 0);
        x.load(0, 10, 0);
        x.rule(3, 40);
        Due.be("13 as many as LEAST: it goes over", x.steps(1), 20);
        Due.row("13 two over", LoadTest.books(x), 16, 20, 16, 2);
        RopeFerry y = new RopeFerry();
        y.rule(5, 0);
        y.steps(1);
        Due.be("13 LEAST 0: it goes over with nobody", y.boat(0), 1);
        Due.be("13 MINUTES", y.book(0), 11);
    }

    private static void itGoesOverEmpty() {
        RopeFerry x = new RopeFerry();
        x.load(0, 10, 1);
        Due.be("13 empty for one who rings", x.steps(1), 0);
        Due.row("13 MINUTES went by", LoadTest.books(x), 11, 0, 11, 0);
        Due.be("13 SIDE is the other", x.boat(0), 1);
        Due.be("13 the LOAD stays", x.told(0, 2), 1);
        x.rule(3, 40);
        Due.be("13 and then back with it", x.steps(1), 10);
        Due.row("13 over", LoadTest.books(x), 22, 10, 0, 1);
        Due.be("13 on the other BANK", x.told(0, 2), 0);
    }

    private static void aDoctorIsNotWaitedWith() {
        RopeFerry x = new RopeFerry();
        x.load(5, 10, 0);
        x.load(0, 20, 1);
        x.rule(5, 10);
        x.steps(1);
        Due.be("13 a DOCTOR goes over alone", x.told(0, 4), 1);
        x.rule(3, 40);
        x.steps(1);
        Due.be("13 and back, with whom he meets", x.told(0, 4), 2);
        Due.be("13 TOLLS", x.book(1), 20);
        RopeFerry y = new RopeFerry();
        y.load(0, 10, 0);
        y.load(5, 10, 1);
        y.rule(5, 2);
        y.steps(1);
        Due.be("13 a DOCTOR on the other BANK is waited with", y.boat(0), 0);
        RopeFerry w = new RopeFerry();
        w.load(5, 10, 1);
        w.rule(5, 2);
        w.steps(1);
        Due.be("13 the DOCTOR rings, nobody is here", w.boat(0), 1);
        Due.be("13 he was not aboard", w.told(0, 3), 11);
    }

    private static void itGoesOver() {
        RopeFerry x = new RopeFerry();
        x.load(1, 10, 0);
        x.load(2, 9, 0);
        x.load(4, 5, 0);
        x.load(3, 5, 1);
        x.set(0, 3, 50);
        x.set(1, 3, 60);
        x.set(2, 3, 3);
        x.set(3, 3, 1);
        Due.be("13 a COACH and a FLOCK pay", x.steps(1), 24);
        Due.row("13 COACH", LoadTest.tolds(x, 0), 1, 10, 1, 0, 1, 20, 3, 5, 18);
        Due.row("13 FLOCK", LoadTest.tolds(x, 1), 2, 9, 1, 0, 1, 4, 1, 0, 90);
        Due.row("13 HERD", LoadTest.tolds(x, 2), 4, 5, 0, 14, 0, 5, 4, 7, 87);
        Due.row("13 HEARSE", LoadTest.tolds(x, 3), 3, 5, 1, 12, 0, 0, 3, 0, 26);
        Due.row("13 book", LoadTest.books(x), 11, 24, 26, 2);
        Due.be("13 SIDE", x.boat(0), 1);
        Due.be("13 THE STEP", x.count(1), 1);
    }

    private static void whatIsPaidAsItWasAhead() {
        RopeFerry x = new RopeFerry();
        x.load(0, 10, 0);
        x.load(1, 10, 0);
        x.set(0, 3, 70);
        x.set(1, 3, 80);
        Tape.tell(x, "toll v+s");
        Due.be("13 by WAITS and STREAM as they were", x.steps(1), 110 + 2 * 120);
        Due.be("13 WAITS are 0 now", x.told(0, 5), x.boat(3));
        Due.be("13 TOLLS that came in these steps alone", x.steps(1) + 350, x.book(1));
    }

    private static void theStreamChanges() {
        for (int first : new int[] {40, 2, 97}) {
            RopeFerry x = new RopeFerry();
            x.rule(3, first);
            int z = 1;
            int stream = first;
            for (int i = 0; i < 160; i++) {
                x.steps(1);
                stream = Math.max(0, Math.min(99, stream + Ferries.drawn(z) % 7 - 3));
                z = Ferries.next(z);
                Due.be("13 STREAM", x.boat(3), stream);
                Due.be("13 one draw a STEP", x.count(7), z);
            }
        }
    }

    private static void noMoreStepsThanThereAre() {
        RopeFerry x = new RopeFerry();
        for (int i = 0; i < 99; i++) {
            x.steps(100);
        }
        x.steps(98);
        Due.be("13 9998", x.count(1), 9998);
        int time = x.book(0);
        x.steps(100);
        Due.be("13 9999 at most", x.count(1), 9999);
        Due.be("13 one more step alone", x.book(0), time + 5);
        int z = x.count(7);
        Due.be("13 no more steps", x.steps(1), 0);
        Due.be("13 nothing goes by", x.book(0), time + 5);
        Due.be("13 nothing is drawn", x.count(7), z);
        Due.be("17 what is thought has no bound", x.behind(4, 1), time + 25);
        x.keep();
        Due.be("39 fewer: none", x.check(30), 0);
        x.tell(1);
        Due.be("39 fewer: one too many", x.check(30), 1);
    }

    private static void book() {
        RopeFerry x = new RopeFerry();
        x.load(0, 10, 0);
        x.load(0, 10, 1);
        x.set(0, 3, 9999);
        x.set(1, 3, 9999);
        Due.row("14 book", LoadTest.books(x), 0, 0, 19998, 0);
        x.steps(3);
        Due.be("14 OVER of all", x.book(3), x.told(0, 4) + x.told(1, 4));
        Due.be("14 one over, then both, then both", x.book(3), 5);
        Due.be("14 WAITS of all", x.book(2), x.told(0, 3) + x.told(1, 3));
        for (int what : new int[] {-1, 4, LOW, HIGH}) {
            Due.be("14 BAD", x.book(what), BAD);
        }
    }

    private static void high() {
        RopeFerry x = new RopeFerry();
        Due.be("15 198 is not above 300", x.high(), NONE);
        x.rule(4, 198);
        Due.be("15 198 is not above 198", x.high(), NONE);
        x.rule(4, 197);
        Due.be("15 198 is above 197", x.high(), 99);
        x.rule(4, 1);
        Due.be("15 the least", x.high(), 1);
        Tape.tell(x, "pull a-s");
        Due.be("15 the least by a text", x.high(), 0);
        x.rule(4, 30);
        Due.be("15 by SLANT", x.high(), NONE);
        Due.be("15 STREAM stays", x.boat(3), 40);
        Tape.tell(x, "pull s>50*9999");
        x.rule(4, 9998);
        Due.be("15 from there on", x.high(), NONE);
        Tape.tell(x, "pull (s>50)*9999");
        Due.be("15 from there on", x.high(), 51);
    }

    private static void best() {
        RopeFerry x = new RopeFerry();
        Due.be("16 nobody", x.best(0), 0);
        Due.be("16 pays nothing", x.best(1), 0);
        for (int what : new int[] {-1, 2, LOW, HIGH}) {
            Due.be("16 BAD", x.best(what), BAD);
        }
        x.load(1, 30, 0);
        x.load(0, 40, 0);
        x.load(0, 15, 0);
        x.load(1, 99, 1);
        Due.be("16 COACH 60 and CART 15", x.best(0), 5);
        Due.be("16 pay", x.best(1), 75);
        x.rule(2, 3);
        Due.be("16 room for a COACH", x.best(0), 1);
        x.rule(2, 2);
        Due.be("16 room for a CART", x.best(0), 2);
        x.rule(2, 20);
        x.rule(4, 239);
        Due.be("16 30 and 20 pull 200, 40 and 20 pull 240", x.best(0), 1);
        x.rule(4, 9999);
        Due.be("16 all of this BANK", x.best(0), 7);
        x.rule(0, 1);
        x.rule(2, 6);
        Due.be("16 of the other BANK", x.best(0), 8);
        Due.be("16 pay", x.best(1), 198);
        x.rule(4, 79);
        Due.be("16 no set does", x.best(0), NONE);
        Due.be("16 no set pays", x.best(1), NONE);
        Due.be("16 BAD stands ahead", x.best(2), BAD);
    }

    private static void bestOfSeveral() {
        RopeFerry x = new RopeFerry();
        x.load(0, 10, 0);
        x.load(0, 20, 0);
        x.load(0, 30, 0);
        x.load(5, 1, 0);
        x.rule(4, 220);
        x.rule(2, 4);
        Due.be("16 30 alone, not 10 and 20, nor with the DOCTOR", x.best(0), 4);
        x.set(0, 1, 30);
        x.set(1, 1, 30);
        Due.be("16 of several as few the least as bits", x.best(0), 1);
        x.set(0, 1, 29);
        Due.be("16 of several as few the least as bits", x.best(0), 2);
        Tape.tell(x, "pull 9-w");
        x.rule(4, 8);
        Due.be("16 none aboard pull too much, a DOCTOR helps", x.best(1), 60);
        Due.be("16 the best two", x.best(0), 6);
        Tape.tell(x, "toll 0");
        Due.be("16 one that is least", x.best(0), 1);
        RopeFerry y = new RopeFerry();
        y.load(5, 10, 0);
        Due.be("16 nobody pays as much as a DOCTOR, with fewer", y.best(0), 0);
        y.load(0, 10, 0);
        y.rule(4, 120);
        Due.be("16 at MARK is not above it", y.best(0), 2);
        y.rule(4, 119);
        Due.be("16 above MARK", y.best(0), 0);
    }
}
