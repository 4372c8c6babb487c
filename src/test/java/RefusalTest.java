import java.util.function.ToIntFunction;

/**
 * "A call that is refused answers one of BAD, NO, FULL, or a FINDING, of several the one that stands first with it,
 * and changes nothing (but the tape and the numbers that wait, where told)": each refusal but a lone BAD (BoundsTest
 * has those), and wherever a call could be refused in more than one way, which comes first.
 */
public final class RefusalTest {
    private static final int BAD = RopeFerry.BAD;
    private static final int NO = RopeFerry.NO;
    private static final int FULL = RopeFerry.FULL;
    private static final int NONE = RopeFerry.NONE;
    private static final int NOTHING = RopeFerry.NOTHING;
    private static final int KIND = RopeFerry.KIND;
    private static final int INDEX = RopeFerry.INDEX;
    private static final int SIZE = RopeFerry.SIZE;
    private static final int LOW = Integer.MIN_VALUE;
    private static final int HIGH = Integer.MAX_VALUE;
    private static final int[] NO_SHEET = {-1, 4, LOW, HIGH};
    private static final int[] NO_SLOT = {-1, 5, LOW, HIGH};

    public static void main(String[] args) {
        fullOfLoads();
        notOfThatKind();
        noMoreSteps();
        noSetAndNoLoads();
        slanted();
        theTapeIsFull();
        faults();
        fullOfTexts();
        noTextOfAKey();
        sheet();
        mark();
        pourAndReads();
        copyBadAndNothing();
        copyKindAndIndex();
        lay();
        ask();
        item();
        rest();
        sixtyWait();
        noImage();
        Due.end();
    }

    private static void refused(String what, ToIntFunction<RopeFerry> call, int due) {
        Whole.stays(what, Ferries::rich, call, due);
    }

    private static RopeFerry tenLoads() {
        RopeFerry x = Ferries.rich();
        x.deal(7);
        return x;
    }

    private static void fullOfLoads() {
        Whole.stays("2 the eleventh LOAD", RefusalTest::tenLoads, x -> x.load(0, 1, 0), FULL);
        for (int[] wrong : new int[][] {{-1, 1, 0}, {6, 1, 0}, {0, 0, 0}, {0, 100, 0}, {0, 1, -1}, {0, 1, 2}}) {
            Whole.stays("2 BAD ahead of FULL", RefusalTest::tenLoads, x -> x.load(wrong[0], wrong[1], wrong[2]), BAD);
        }
        Whole.stays("11 no room: none come, none are drawn", RefusalTest::tenLoads, x -> x.deal(1), 0);
        Whole.stays("11 no room: none come, none are drawn", RefusalTest::tenLoads, x -> x.deal(10), 0);
        for (int wrong : new int[] {0, 11, LOW, HIGH}) {
            Whole.stays("11 BAD, though there is no room", RefusalTest::tenLoads, x -> x.deal(wrong), BAD);
        }
    }

    private static void notOfThatKind() {
        refused("4 a CART as a COACH", x -> x.as(0, 1), KIND);
        refused("4 a COACH as a HEARSE, which is under it", x -> x.as(1, 3), KIND);
        refused("4 a HEARSE as a FLOCK", x -> x.as(2, 2), KIND);
        refused("4 BAD ahead of KIND: no such LOAD", x -> x.as(3, 5), BAD);
        refused("4 BAD ahead of KIND: no such KIND", x -> x.as(0, 6), BAD);
        refused("4 BAD ahead of KIND: no such KIND", x -> x.as(0, -1), BAD);
    }

    private static RopeFerry atTheLastStep() {
        return Ferries.gone(Ferries.rich(), 9996);
    }

    private static void noMoreSteps() {
        Due.be("13 there", atTheLastStep().count(1), 9999);
        for (int n : new int[] {1, 100}) {
            Whole.stays("13 no STEP is left: no TOLLS come", RefusalTest::atTheLastStep, x -> x.steps(n), 0);
        }
        for (int wrong : new int[] {0, 101}) {
            Whole.stays("13 BAD, though no STEP is left", RefusalTest::atTheLastStep, x -> x.steps(wrong), BAD);
        }
    }

    private static void noSetAndNoLoads() {
        RopeFerry stopped = new RopeFerry();
        stopped.rule(4, 1);
        Due.be("16 no set does", stopped.best(0), NONE);
        Due.be("16 no set does", stopped.best(1), NONE);
        RopeFerry empty = new RopeFerry();
        Due.be("20 no LOADS", empty.left(1, 0), NONE);
        Due.be("20 no LOADS", empty.left(60, 1), NONE);
        for (int wrong : new int[] {-1, 2, LOW, HIGH}) {
            Due.be("16 BAD ahead of NONE", stopped.best(wrong), BAD);
            Due.be("20 BAD what ahead of NONE", empty.left(1, wrong), BAD);
        }
        for (int wrong : new int[] {0, 61, LOW, HIGH}) {
            Due.be("20 BAD n ahead of NONE", empty.left(wrong, 0), BAD);
        }
    }

    private static void slanted() {
        refused("22 a MISSING SHEET", x -> x.slanted(3, 0), NOTHING);
        refused("22 a MISSING SHEET", x -> x.slanted(3, 1), NOTHING);
        for (int wrong : new int[] {-1, 2, LOW, HIGH}) {
            refused("22 BAD ahead of NOTHING", x -> x.slanted(3, wrong), BAD);
        }
    }

    /** A tape of so many bytes, a TEXT that gives 7 and what stands right ahead of its last sign. */
    private static RopeFerry withTape(int bytes) {
        RopeFerry x = Ferries.rich(true, false);
        Tape.put(x, "fine" + " ".repeat(bytes - 7) + "8-1");
        return x;
    }

    private static void theTapeIsFull() {
        for (int bytes : new int[] {85, 86, 95, 96}) {
            Whole.stays("24 FULL behind " + bytes, () -> withTape(bytes), x -> x.feed(0, LOW, HIGH), FULL);
            RopeFerry x = withTape(bytes);
            x.feed(0, 0, 0);
            Due.be("24 the tape stays", x.count(6), bytes);
            x.text();
            Due.be("24 the tape stays", x.fine(), 7);
        }
        RopeFerry room = withTape(84);
        Due.be("24 there is room for twelve behind 84", room.feed(0x2b312b31, 0x2b312b31, 0x2b312b31), 96);
        room.text();
        Due.be("24 and all twelve came", room.fine(), 13);
        for (int wrong : new int[] {-1, 97, LOW, HIGH}) {
            Whole.stays("25 BAD of a full tape", () -> withTape(96), x -> x.trim(wrong), BAD);
        }
    }

    private static void faults() {
        String[] wrong = {"", "toll", "fine )", "pull x", "fine 12345", "toll (w"};
        int[] places = {0, 4, 5, 5, 5, 7};
        for (int i = 0; i < wrong.length; i++) {
            String tape = wrong[i];
            Whole.stays("26 a FAULT uses the tape up, all else stays: " + tape, () -> Ferries.rich(true, false),
                x -> Tape.tell(x, tape), -100 - places[i]);
        }
    }

    private static RopeFerry fourteenTexts() {
        RopeFerry x = Ferries.rich(true, false);
        while (x.count(4) < 14) {
            Tape.tell(x, "pull s+" + x.count(4));
        }
        return x;
    }

    private static void fullOfTexts() {
        Whole.stays("26 FULL uses the tape up, all else stays", RefusalTest::fourteenTexts,
            x -> Tape.tell(x, "toll 900"), FULL);
        Whole.stays("26 a FAULT ahead of FULL", RefusalTest::fourteenTexts, x -> Tape.tell(x, "toll 9000 0"), -110);
        Whole.stays("26 a FAULT ahead of FULL, at the end", RefusalTest::fourteenTexts, x -> x.text(), -100);
        RopeFerry x = fourteenTexts();
        x.back();
        Due.be("26 those of THE IMAGE alone: there is room again", Tape.tell(x, "toll 900"), 2);
    }

    private static void noTextOfAKey() {
        RopeFerry x = new RopeFerry();
        for (int wrong : new int[] {-1, 3, LOW, HIGH}) {
            Due.be("28 BAD ahead of NONE", x.why(wrong), BAD);
        }
        for (int key = 0; key < 3; key++) {
            Due.be("28 NONE", x.why(key), NONE);
        }
    }

    private static void sheet() {
        for (int sheet = 0; sheet < 4; sheet++) {
            for (int sort = 0; sort < 2; sort++) {
                int which = sheet;
                int as = sort;
                refused("29 SIZE of -1", x -> x.sheet(which, as, -1), SIZE);
                refused("29 SIZE of the lowest", x -> x.sheet(which, as, LOW), SIZE);
                refused("29 25 places are BAD", x -> x.sheet(which, as, 25), BAD);
                refused("29 the most places are BAD", x -> x.sheet(which, as, HIGH), BAD);
            }
        }
        for (int wrong : NO_SHEET) {
            refused("29 BAD sheet ahead of SIZE", x -> x.sheet(wrong, 0, -1), BAD);
            refused("29 BAD sheet, though MISSING takes any n", x -> x.sheet(wrong, -1, 0), BAD);
        }
        for (int wrong : new int[] {-2, 2, LOW, HIGH}) {
            refused("29 BAD sort ahead of SIZE", x -> x.sheet(0, wrong, -1), BAD);
            refused("29 BAD sort", x -> x.sheet(0, wrong, 3), BAD);
        }
    }

    private static void mark() {
        for (int wrong : NO_SHEET) {
            refused("30 BAD sheet ahead of all", x -> x.mark(wrong, -1, NONE), BAD);
        }
        refused("30 NOTHING", x -> x.mark(3, 0, 0), NOTHING);
        refused("30 NOTHING ahead of INDEX", x -> x.mark(3, -1, 0), NOTHING);
        refused("30 NOTHING ahead of KIND", x -> x.mark(3, 0, NONE), NOTHING);
        refused("30 NOTHING ahead of BAD v", x -> x.mark(3, 0, 100000), NOTHING);
        for (int wrong : new int[] {-1, 3, LOW, HIGH}) {
            refused("30 INDEX of shorts", x -> x.mark(0, wrong, 1), INDEX);
            refused("30 INDEX of floats", x -> x.mark(1, wrong, 1), INDEX);
            refused("30 INDEX ahead of KIND", x -> x.mark(0, wrong, NONE), INDEX);
            refused("30 INDEX ahead of BAD v", x -> x.mark(1, wrong, -100000), INDEX);
        }
        refused("30 a row without places has none", x -> x.mark(2, 0, 0), INDEX);
        refused("30 KIND", x -> x.mark(0, 1, NONE), KIND);
        for (int wrong : new int[] {100000, -100000, LOW, HIGH, NONE + 1, NONE - 1}) {
            refused("30 BAD v of floats", x -> x.mark(1, 0, wrong), BAD);
        }
    }

    private static void pourAndReads() {
        refused("31 NOTHING", x -> x.pour(3), NOTHING);
        refused("32 NOTHING", x -> x.reads(3), NOTHING);
        refused("32 NONE", x -> x.reads(2), NONE);
    }

    private static void copyBadAndNothing() {
        for (int wrong : NO_SHEET) {
            refused("33 BAD from ahead of NOTHING", x -> x.copy(wrong, -1, 3, -1, -1), BAD);
            refused("33 BAD to ahead of NOTHING", x -> x.copy(3, -1, wrong, -1, -1), BAD);
            refused("33 BAD from ahead of INDEX", x -> x.copy(wrong, -1, 0, -1, -1), BAD);
            refused("33 BAD to ahead of INDEX", x -> x.copy(0, -1, wrong, -1, -1), BAD);
        }
        for (int sheet = 0; sheet < 4; sheet++) {
            int other = sheet;
            refused("33 NOTHING from, ahead of KIND", x -> x.copy(3, 0, other, 0, 1), NOTHING);
            refused("33 NOTHING to, ahead of KIND", x -> x.copy(other, 0, 3, 0, 1), NOTHING);
            refused("33 NOTHING from, ahead of INDEX", x -> x.copy(3, -1, other, 9, 1), NOTHING);
            refused("33 NOTHING to, ahead of INDEX", x -> x.copy(other, -1, 3, 9, -1), NOTHING);
        }
    }

    private static void copyKindAndIndex() {
        refused("33 KIND, shorts to floats", x -> x.copy(0, 0, 1, 0, 1), KIND);
        refused("33 KIND, floats to shorts", x -> x.copy(1, 0, 0, 0, 1), KIND);
        refused("33 KIND, though no places come", x -> x.copy(1, 0, 0, 0, 0), KIND);
        refused("33 KIND, to one without places", x -> x.copy(0, 0, 2, 0, 0), KIND);
        refused("33 KIND ahead of INDEX from", x -> x.copy(0, 4, 1, 0, 0), KIND);
        refused("33 KIND ahead of INDEX to", x -> x.copy(0, 0, 1, -1, 1), KIND);
        refused("33 KIND ahead of INDEX of fewer than none", x -> x.copy(0, 0, 1, 0, -1), KIND);
        int[][] wrong = {{-1, 0, 1}, {0, -1, 1}, {0, 0, 4}, {3, 0, 1}, {0, 3, 1}, {2, 0, 2}, {0, 2, 2}, {4, 0, 0}, {0, 4, 0},
            {0, 0, -1}, {3, 3, -1}, {4, 4, -1}, {1, 1, LOW}, {LOW, 0, 1}, {0, LOW, 1}, {HIGH, 0, 1}, {0, HIGH, 1},
            {1, 0, HIGH}, {0, 1, HIGH}, {HIGH, HIGH, HIGH}, {LOW, LOW, LOW}};
        for (int[] one : wrong) {
            for (int sheet = 0; sheet < 2; sheet++) {
                int same = sheet;
                refused("33 INDEX " + java.util.Arrays.toString(one), x -> x.copy(same, one[0], same, one[1], one[2]),
                    INDEX);
            }
        }
        refused("33 INDEX from one without places", x -> x.copy(2, 0, 1, 0, 1), INDEX);
        refused("33 INDEX to one without places", x -> x.copy(1, 0, 2, 0, 1), INDEX);
        refused("33 none of one without places", x -> x.copy(2, 0, 1, 3, 0), 0);
        refused("33 none to one without places", x -> x.copy(1, 3, 2, 0, 0), 0);
    }

    private static void lay() {
        for (int slot = 0; slot < 5; slot++) {
            int which = slot;
            refused("34 a MISSING SHEET, what SLOT " + slot + " holds stays", x -> x.lay(which, 2, 3), NOTHING);
            refused("34 no such SHEET, what SLOT " + slot + " holds stays", x -> x.lay(which, 2, 4), BAD);
            refused("34 no such LOAD, what SLOT " + slot + " holds stays", x -> x.lay(which, 1, 3), BAD);
            refused("34 no such thing, what SLOT " + slot + " holds stays", x -> x.lay(which, 4, 0), BAD);
        }
        for (int wrong : NO_SLOT) {
            refused("34 BAD slot ahead of NOTHING", x -> x.lay(wrong, 2, 3), BAD);
            refused("34 BAD slot, though it were to hold nothing", x -> x.lay(wrong, 0, 0), BAD);
            refused("34 BAD slot, though any number can be held", x -> x.lay(wrong, 3, 0), BAD);
        }
    }

    private static void ask() {
        refused("35 NOTHING", x -> x.ask(0, 0), NOTHING);
        refused("35 a row is no LOAD", x -> x.ask(2, 0), KIND);
        refused("35 a number is no LOAD", x -> x.ask(3, 0), KIND);
        refused("35 a COACH is no FLOCK", x -> x.ask(1, 2), KIND);
        refused("35 a COACH is no HEARSE, which is under it", x -> x.ask(1, 3), KIND);
        for (int wrong : new int[] {-1, 6, LOW, HIGH}) {
            refused("35 BAD kind ahead of NOTHING", x -> x.ask(0, wrong), BAD);
            refused("35 BAD kind ahead of KIND, of a LOAD", x -> x.ask(1, wrong), BAD);
            refused("35 BAD kind ahead of KIND, of a row", x -> x.ask(2, wrong), BAD);
            refused("35 BAD kind ahead of KIND, of a number", x -> x.ask(3, wrong), BAD);
        }
        for (int wrong : NO_SLOT) {
            refused("35 BAD slot", x -> x.ask(wrong, 0), BAD);
        }
    }

    private static void item() {
        for (int place : new int[] {0, -1, 3, LOW, HIGH}) {
            refused("36 NOTHING ahead of INDEX", x -> x.item(0, place), NOTHING);
            refused("36 KIND ahead of INDEX, of a LOAD", x -> x.item(1, place), KIND);
            refused("36 KIND ahead of INDEX, of a number", x -> x.item(3, place), KIND);
        }
        for (int place : new int[] {-1, 3, LOW, HIGH}) {
            refused("36 INDEX of floats", x -> x.item(2, place), INDEX);
            refused("36 INDEX of shorts", x -> x.item(4, place), INDEX);
        }
        refused("36 KIND of NO NUMBER", x -> x.item(2, 1), KIND);
        for (int wrong : NO_SLOT) {
            refused("36 BAD slot ahead of INDEX", x -> x.item(wrong, -1), BAD);
        }
        RopeFerry x = Ferries.rich();
        x.lay(0, 2, 2);
        Due.be("36 a row without places has none", x.item(0, 0), INDEX);
    }

    private static void rest() {
        for (int n : new int[] {0, 1, LOW}) {
            refused("37 NOTHING ahead of NO", x -> x.rest(0, n), NOTHING);
            refused("37 KIND ahead of NO, of a LOAD", x -> x.rest(1, n), KIND);
            refused("37 KIND ahead of NO, of a row", x -> x.rest(2, n), KIND);
        }
        refused("37 NO", x -> x.rest(3, 0), NO);
        for (int wrong : NO_SLOT) {
            refused("37 BAD slot ahead of NO", x -> x.rest(wrong, 0), BAD);
        }
    }

    private static RopeFerry withSixty() {
        RopeFerry x = Ferries.withCarts(2);
        x.keep();
        for (int n = 1; n <= 30; n++) {
            x.tell(x.behind(n, 1));
            x.tell(x.behind(n, 0));
        }
        return x;
    }

    private static void sixtyWait() {
        Due.be("38 sixty wait", withSixty().count(5), 60);
        Whole.stays("38 the sixty-first is FULL", RefusalTest::withSixty, x -> x.tell(7), FULL);
        RopeFerry x = withSixty();
        x.tell(7);
        Due.be("38 and the sixty are as they were", x.check(30), 0);
        Due.be("38 none waits then", x.tell(7), 1);
    }

    private static RopeFerry withoutImage(boolean numbers) {
        RopeFerry x = Ferries.withCarts(2);
        if (numbers) {
            x.tell(11);
            x.tell(20);
        }
        return x;
    }

    private static void noImage() {
        Whole.stays("41 NO", () -> withoutImage(true), x -> x.back(), NO);
        for (int n : new int[] {1, 30}) {
            Whole.stays("39 NO, none wait then", () -> withoutImage(true), x -> x.check(n), NO, () -> withoutImage(false));
        }
        for (int wrong : new int[] {0, 31, LOW, HIGH}) {
            Whole.stays("39 BAD ahead of NO, none wait then", () -> withoutImage(true), x -> x.check(wrong), BAD,
                () -> withoutImage(false));
        }
    }
}
