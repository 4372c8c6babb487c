/** Edges that the document names in its section 2 (A STEP) and of HIGH and BEST LOADING, for promises 13 to 16. */
public final class StepEdgesTest {
    private static final int BAD = RopeFerry.BAD;
    private static final int NONE = RopeFerry.NONE;
    private static final int LOW = Integer.MIN_VALUE;
    private static final int HIGH = Integer.MAX_VALUE;
    private static final int OVER = 11;
    private static final int WAITED = 5;
    private static final int STOPPED = 10;

    public static void main(String[] args) {
        stoppedAboveMark();
        stoppedAheadOfAll();
        fewerThanLeast();
        leastOfNone();
        aDoctorOnThisBank();
        nobodyOnTheOtherBank();
        nobodyIsPaidForTwice();
        aCrossingIsAsItWasAhead();
        whoWasNotAboard();
        streamIsHeld();
        howManySteps();
        noMoreThanUpTo9999();
        tollsOfTheseStepsAlone();
        book();
        high();
        highByText();
        bestAtRoomAndMark();
        bestOfNone();
        bestOfSeveral();
        Due.end();
    }

    private static int minutesOfAStep(RopeFerry x) {
        int ahead = x.book(0);
        x.steps(1);
        return x.book(0) - ahead;
    }

    /** "If PULL with nothing is above MARK: it is STOPPED": at MARK it is not. */
    private static void stoppedAboveMark() {
        for (int mark = 78; mark <= 82; mark++) {
            RopeFerry x = Ferries.withCarts(1);
            x.rule(4, mark);
            Due.be("80 and MARK " + mark, minutesOfAStep(x), mark < 80 ? STOPPED : OVER);
            Due.be("80 and MARK " + mark + ", SIDE", x.boat(0), mark < 80 ? 0 : 1);
            Due.be("80 and MARK " + mark + ", nobody is aboard", x.book(3), 0);
        }
        RopeFerry least = new RopeFerry();
        least.rule(4, 1);
        least.rule(3, 0);
        least.rule(5, 0);
        Due.be("PULL 0 is not above MARK 1", minutesOfAStep(least), 60);
        RopeFerry x = Ferries.withCarts(1);
        Tape.tell(x, "pull 9999");
        x.rule(4, 9999);
        Due.be("PULL 9999 is not above MARK 9999", minutesOfAStep(x), OVER);
        x.rule(4, 9998);
        Due.be("PULL 9999 is above MARK 9998", minutesOfAStep(x), STOPPED);
    }

    /** "Nothing goes over, 10 minutes go by. Else, ...": no DOCTOR, no LEAST, none who rings helps. */
    private static void stoppedAheadOfAll() {
        for (int least = 0; least <= 10; least += 5) {
            for (int bank = 0; bank < 2; bank++) {
                RopeFerry x = new RopeFerry();
                x.load(5, 1, bank);
                x.rule(5, least);
                x.rule(4, 79);
                Due.be("stopped", minutesOfAStep(x), STOPPED);
                Due.row("stopped, book", LoadTest.books(x), 10, 0, 10, 0);
                Due.be("stopped, SIDE", x.boat(0), 0);
                Due.be("stopped, it is a STEP", x.count(1), 1);
                Due.be("stopped, there is a draw", x.count(7), Ferries.next(1));
            }
        }
        RopeFerry none = new RopeFerry();
        none.rule(4, 1);
        Due.be("stopped without LOADS", minutesOfAStep(none), STOPPED);
    }

    /** "If on the BANK of SIDE there are fewer LOADS than LEAST ... it waits: 5 minutes go by." */
    private static void fewerThanLeast() {
        for (int least = 0; least <= 10; least++) {
            for (int here = 1; here <= 10; here++) {
                RopeFerry x = Ferries.withCarts(here);
                x.rule(5, least);
                String what = here + " LOADS, LEAST " + least;
                Due.be(what, minutesOfAStep(x), here < least ? WAITED : OVER);
                Due.be(what + ", SIDE", x.boat(0), here < least ? 0 : 1);
                Due.be(what + ", aboard", x.book(3), here < least ? 0 : Math.min(here, 3));
            }
        }
        RopeFerry x = Ferries.withCarts(3);
        x.set(2, 2, 1);
        x.rule(5, 3);
        Due.be("one on the other BANK does not count", minutesOfAStep(x), WAITED);
        x.rule(5, 2);
        x.rule(3, 40);
        Due.be("two are here", minutesOfAStep(x), OVER);
    }

    /** LEAST 0: there are never fewer, so it goes over with nobody. */
    private static void leastOfNone() {
        RopeFerry x = new RopeFerry();
        Due.be("LEAST 1, no LOADS", minutesOfAStep(x), WAITED);
        Due.be("LEAST 1, no LOADS, SIDE", x.boat(0), 0);
        x.rule(5, 0);
        x.rule(3, 40);
        Due.be("LEAST 0, no LOADS", minutesOfAStep(x), OVER);
        Due.be("LEAST 0, no LOADS, SIDE", x.boat(0), 1);
        x.rule(3, 40);
        Due.be("and back", minutesOfAStep(x), OVER);
        Due.be("and back, SIDE", x.boat(0), 0);
    }

    /** "And no DOCTOR": one on the BANK of SIDE, and only a DOCTOR. */
    private static void aDoctorOnThisBank() {
        for (int kind = 0; kind < 6; kind++) {
            RopeFerry x = new RopeFerry();
            x.load(kind, 1, 0);
            x.rule(5, 2);
            Due.be("KIND " + kind + " alone, LEAST 2", minutesOfAStep(x), kind == 5 ? OVER : WAITED);
            RopeFerry y = Ferries.withCarts(1);
            y.load(kind, 1, 1);
            y.rule(5, 2);
            Due.be("KIND " + kind + " on the other BANK, LEAST 2", minutesOfAStep(y), WAITED);
        }
        RopeFerry x = Ferries.withCarts(9);
        x.load(5, 99, 0);
        x.rule(5, 10);
        x.rule(2, 1);
        Due.be("the last of ten is one, though he finds no ROOM", minutesOfAStep(x), OVER);
        Due.be("nobody is aboard", x.book(3), 0);
    }

    /** "If there is no LOAD on the other BANK, or at least one on this one, it waits ...; else it goes over empty." */
    private static void nobodyOnTheOtherBank() {
        int[][] due = {{0, 0, 1}, {1, 0, 1}, {1, 1, 1}, {0, 1, 0}, {0, 2, 0}, {2, 0, 1}, {0, 10, 0}, {1, 9, 1}};
        for (int side = 0; side < 2; side++) {
            for (int[] row : due) {
                RopeFerry x = Ferries.withCarts(row[0] + row[1]);
                for (int load = 0; load < row[0] + row[1]; load++) {
                    x.set(load, 2, load < row[0] ? side : 1 - side);
                }
                x.rule(0, side);
                x.rule(5, 3);
                String what = row[0] + " here, " + row[1] + " there, LEAST 3";
                Due.be(what, minutesOfAStep(x), row[2] == 1 ? WAITED : OVER);
                Due.be(what + ", SIDE", x.boat(0), row[2] == 1 ? side : 1 - side);
                Due.be(what + ", it is empty", x.book(3), 0);
                Due.be(what + ", all were not aboard", x.book(2), (row[0] + row[1]) * x.book(0));
            }
        }
    }

    /** "TOLLS more by what each PAYS": of those aboard alone, once each. */
    private static void nobodyIsPaidForTwice() {
        RopeFerry x = Ferries.withCarts(4);
        x.load(0, 77, 1);
        Due.be("three of four fit", x.steps(1), 30);
        Due.row("OVER of each", new int[] {x.told(0, 4), x.told(1, 4), x.told(2, 4), x.told(3, 4), x.told(4, 4)},
            1, 1, 1, 0, 0);
        Due.row("BANK of each", new int[] {x.told(0, 2), x.told(1, 2), x.told(2, 2), x.told(3, 2), x.told(4, 2)},
            1, 1, 1, 0, 1);
    }

    /** "MINUTES go by", by the STREAM ahead of the draw, and "what each PAYS (as it was ahead)". */
    private static void aCrossingIsAsItWasAhead() {
        for (int rest = 0; rest < 7; rest++) {
            RopeFerry x = Ferries.withCarts(2);
            x.seed(Ferries.seedFor(rest, 7));
            x.rule(3, 20);
            x.set(0, 3, 100);
            x.set(1, 3, 200);
            Tape.tell(x, "toll s*10+v");
            Due.be("TOLLS by STREAM 20 and by WAITS as they were", x.steps(1), 700);
            Due.be("MINUTES by STREAM 20", x.book(0), 18);
            Due.be("STREAM", x.boat(3), 17 + rest);
            Due.be("who was aboard WAITS 0", x.book(2), 0);
        }
    }

    /** "So are WAITS of all LOADS that were not aboard", on both BANKS. */
    private static void whoWasNotAboard() {
        RopeFerry x = Ferries.withCarts(5);
        x.set(3, 2, 1);
        x.set(4, 3, 1);
        x.rule(2, 4);
        x.steps(1);
        Due.row("0 and 4 were aboard", new int[] {x.told(0, 3), x.told(1, 3), x.told(2, 3), x.told(3, 3), x.told(4, 3)},
            0, 11, 11, 11, 0);
        Due.row("0 and 4 have been over", new int[] {x.told(0, 4), x.told(1, 4), x.told(2, 4), x.told(3, 4), x.told(4, 4)},
            1, 0, 0, 0, 1);
    }

    /** "STREAM is its rest by 7, less 3, more (0 at least, 99 at most)." */
    private static void streamIsHeld() {
        for (int rest = 0; rest < 7; rest++) {
            for (int stream : new int[] {0, 1, 2, 3, 4, 50, 95, 96, 97, 98, 99}) {
                RopeFerry x = new RopeFerry();
                x.seed(Ferries.seedFor(rest, 7));
                x.rule(3, stream);
                x.steps(1);
                int due = Math.max(0, Math.min(99, stream + rest - 3));
                Due.be("from " + stream + " by a rest of " + rest, x.boat(3), due);
                x.rule(3, stream);
                x.seed(Ferries.seedFor(rest, 7));
                Due.be("in thought too", x.behind(1, 4), due);
            }
        }
    }

    /** "n (1 .. 100) STEPS." */
    private static void howManySteps() {
        for (int n : new int[] {1, 2, 99, 100}) {
            RopeFerry x = new RopeFerry();
            Due.be("no TOLLS", x.steps(n), 0);
            Due.be("THE STEP", x.count(1), n);
            Due.be("5 minutes each", x.book(0), 5 * n);
        }
        for (int wrong : new int[] {0, 101, -1, LOW, HIGH}) {
            RopeFerry x = new RopeFerry();
            Due.be("so many are never gone", x.steps(wrong), BAD);
            Due.be("THE STEP stays", x.count(1), 0);
        }
    }

    /** "(no more than up to 9999)": all that are left, and none behind them. */
    private static void noMoreThanUpTo9999() {
        for (int left : new int[] {0, 1, 2, 99, 100}) {
            for (int n : new int[] {1, 2, 99, 100}) {
                RopeFerry x = Ferries.gone(new RopeFerry(), 9999 - left);
                int time = x.book(0);
                x.steps(n);
                Due.be(n + " where " + left + " are left", x.count(1), 9999 - left + Math.min(n, left));
                Due.be("5 minutes each", x.book(0) - time, 5 * Math.min(n, left));
            }
        }
    }

    /** "TOLLS that came in them." */
    private static void tollsOfTheseStepsAlone() {
        RopeFerry x = Ferries.withCarts(1);
        Due.be("one", x.steps(1), 10);
        Due.be("two more", x.steps(2), 20);
        Due.be("all of them", x.book(1), 30);
        x.rule(4, 1);
        Due.be("none came", x.steps(2), 0);
        Due.be("they stay", x.book(1), 30);
    }

    /** "What was 0 TIME, 1 TOLLS, and 2 WAITS of all, 3 OVER of all, together": of no LOADS 0. */
    private static void book() {
        RopeFerry x = new RopeFerry();
        Due.row("no LOADS", LoadTest.books(x), 0, 0, 0, 0);
        RopeFerry y = Ferries.withCarts(10);
        for (int load = 0; load < 10; load++) {
            y.set(load, 3, 9990 + load);
        }
        Due.be("ten LOADS", y.book(2), 99945);
        y.rule(2, 20);
        y.rule(4, 9999);
        y.steps(2);
        Due.row("ten LOADS, over and back", LoadTest.books(y), y.book(0), 200, 0, 20);
        for (int wrong : new int[] {-1, 4, LOW, HIGH}) {
            Due.be("no such thing", y.book(wrong), BAD);
        }
    }

    /** "The least STREAM 0 .. 99 with which PULL with nothing is above MARK"; "NONE: none is". */
    private static void high() {
        int[][] due = {{1, 1}, {2, 2}, {3, 2}, {4, 3}, {195, 98}, {196, 99}, {197, 99}, {198, NONE}, {199, NONE},
            {9999, NONE}};
        for (int[] row : due) {
            for (int stream : new int[] {0, 40, 99}) {
                RopeFerry x = new RopeFerry();
                x.rule(4, row[0]);
                x.rule(3, stream);
                Due.be("MARK " + row[0] + ", STREAM " + stream + " now", x.high(), row[1]);
                Due.be("STREAM stays", x.boat(3), stream);
            }
        }
    }

    private static void highByText() {
        RopeFerry x = new RopeFerry();
        x.rule(4, 9998);
        Tape.tell(x, "pull 9999");
        Due.be("with each STREAM: the least is 0", x.high(), 0);
        Tape.tell(x, "pull (s=99)*9999");
        Due.be("with the last alone", x.high(), 99);
        Tape.tell(x, "pull (s=0)*9999");
        Due.be("with the first alone", x.high(), 0);
        Tape.tell(x, "pull 9998");
        Due.be("with none", x.high(), NONE);
        Tape.tell(x, "pull 9999-w");
        Due.be("with nothing aboard", x.high(), 0);
        x.rule(4, 9999);
        Due.be("9999 is never above 9999", x.high(), NONE);
    }

    /** "All sets of LOADS on the BANK of SIDE that fit into ROOM, with which PULL is not above MARK." */
    private static void bestAtRoomAndMark() {
        RopeFerry x = Ferries.withCarts(4);
        x.set(3, 2, 1);
        x.set(3, 1, 99);
        int[][] rooms = {{1, 0}, {2, 1}, {3, 1}, {4, 3}, {5, 3}, {6, 7}, {20, 7}};
        for (int[] row : rooms) {
            x.rule(2, row[0]);
            Due.be("ROOM " + row[0], x.best(0), row[1]);
            Due.be("ROOM " + row[0] + ", what it PAYS", x.best(1), 10 * Integer.bitCount(row[1]));
        }
        int[][] marks = {{79, NONE}, {80, 0}, {119, 0}, {120, 1}, {159, 1}, {160, 3}, {199, 3}, {200, 7}, {9999, 7}};
        for (int[] row : marks) {
            x.rule(4, row[0]);
            Due.be("MARK " + row[0], x.best(0), row[1]);
            Due.be("MARK " + row[0] + ", what it PAYS", x.best(1), row[1] == NONE ? NONE : 10 * Integer.bitCount(row[1]));
        }
        x.rule(0, 1);
        Due.be("the other BANK", x.best(0), 8);
        Due.be("the other BANK, what it PAYS", x.best(1), 99);
        x.rule(2, 1);
        Due.be("the other BANK, no ROOM", x.best(0), 0);
    }

    /** The empty set is one too: of no LOADS, and where no other fits. */
    private static void bestOfNone() {
        RopeFerry x = new RopeFerry();
        Due.be("no LOADS", x.best(0), 0);
        Due.be("no LOADS, what it PAYS", x.best(1), 0);
        for (int wrong : new int[] {-1, 2, LOW, HIGH}) {
            Due.be("no such thing", x.best(wrong), BAD);
        }
        RopeFerry y = Ferries.withCarts(2);
        Tape.tell(y, "pull (w<20)*9999");
        Due.be("not with nobody, not with one, but with both", y.best(0), 3);
        y.rule(2, 2);
        Due.be("no set does", y.best(0), NONE);
        Due.be("no set does", y.best(1), NONE);
    }

    /** "The one that PAYS most together; of several that with the fewest; of several the least as bits." */
    private static void bestOfSeveral() {
        RopeFerry x = Ferries.withCarts(3);
        x.set(2, 1, 20);
        x.rule(2, 4);
        x.rule(4, 200);
        Due.be("20 and 10 are most, of two such the least", x.best(0), 5);
        x.rule(4, 160);
        Due.be("20 alone is fewer than 10 and 10", x.best(0), 4);
        Due.be("what it PAYS", x.best(1), 20);
        x.set(2, 1, 19);
        Due.be("10 and 10 are most", x.best(0), 3);
        x.set(2, 1, 10);
        x.rule(2, 2);
        Due.be("of three alike the least", x.best(0), 1);
        x.rule(2, 4);
        Due.be("of three alike pairs the least", x.best(0), 3);
        RopeFerry y = Ferries.withCarts(3);
        y.turns(0, 5);
        y.turns(1, 5);
        y.turns(2, 5);
        Due.be("nobody is fewer than DOCTORS who pay 0", y.best(0), 0);
        Tape.tell(y, "toll 0-7");
        y.turns(2, 4);
        Due.be("a HERD pays 3 of it", y.best(0), 4);
        y.turns(1, 4);
        Due.be("one HERD has ROOM, of two the least", y.best(0), 2);
        Due.be("what it PAYS", y.best(1), 3);
    }
}
