/** Promises 38 to 42: rows, images. */
public final class ImageTest {
    private static final int BAD = RopeFerry.BAD;
    private static final int NO = RopeFerry.NO;
    private static final int NONE = RopeFerry.NONE;
    private static final int LOW = Integer.MIN_VALUE;
    private static final int HIGH = Integer.MAX_VALUE;

    public static void main(String[] args) {
        tell();
        check();
        checkRefused();
        checkByTheImage();
        checkOfTheLongest();
        checkNearTheLastStep();
        keepAndBack();
        textsOfTheImage();
        whatIsNotKept();
        count();
        Due.end();
    }

    private static void tell() {
        RopeFerry x = new RopeFerry();
        for (int i = 1; i <= 60; i++) {
            Due.be("38 how many", x.tell(i % 2 == 0 ? LOW : HIGH), i);
        }
        Due.be("38 FULL", x.tell(0), RopeFerry.FULL);
        Due.be("38 sixty wait", x.count(5), 60);
    }

    private static int checked(RopeFerry x, int n, int... row) {
        for (int v : row) {
            x.tell(v);
        }
        return x.check(n);
    }

    private static void check() {
        RopeFerry x = new RopeFerry();
        x.load(0, 10, 0);
        x.keep();
        Due.be("39 they are", checked(x, 2, 11, 10, 21, 20), 0);
        Due.be("39 none wait then", x.count(5), 0);
        Due.be("39 the first is not", checked(x, 2, 12, 10, 21, 20), 1);
        Due.be("39 the second is not", checked(x, 2, 11, 11, 21, 20), 2);
        Due.be("39 the third is not", checked(x, 2, 11, 10, 22, 20), 3);
        Due.be("39 the last is not", checked(x, 2, 11, 10, 21, 10), 4);
        Due.be("39 none", checked(x, 2), 1);
        Due.be("39 one is missing", checked(x, 2, 11, 10, 21), 4);
        Due.be("39 two are missing", checked(x, 2, 11, 10), 3);
        Due.be("39 one too many", checked(x, 2, 11, 10, 21, 20, 0), 5);
        Due.be("39 two too many", checked(x, 1, 11, 10, 21, 20), 3);
        Due.be("39 old ones are gone", checked(x, 1, 11), 2);
        Due.be("39 nothing changes", x.book(0), 0);
    }

    private static void checkRefused() {
        RopeFerry x = new RopeFerry();
        Due.be("39 NO", checked(x, 1, 5, 0), NO);
        Due.be("39 none wait then", x.count(5), 0);
        for (int wrong : new int[] {0, 31, -1, LOW, HIGH}) {
            Due.be("39 BAD stands ahead of NO", checked(x, wrong, 5, 0), BAD);
            Due.be("39 none wait then", x.count(5), 0);
        }
        x.keep();
        for (int wrong : new int[] {0, 31, -1, LOW, HIGH}) {
            Due.be("39 BAD", checked(x, wrong, 5, 0), BAD);
            Due.be("39 none wait then", x.count(5), 0);
        }
        Due.be("39 and then they are", checked(x, 1, 5, 0), 0);
    }

    private static void checkByTheImage() {
        RopeFerry x = new RopeFerry();
        x.load(0, 10, 0);
        Tape.tell(x, "toll w+1");
        x.keep();
        x.steps(9);
        x.seed(99);
        x.load(0, 30, 0);
        x.rule(3, 1);
        x.rule(4, 5);
        x.turns(0, 5);
        Tape.tell(x, "toll 500");
        Tape.tell(x, "pull 9999");
        Due.be("39 by THE IMAGE alone", checked(x, 2, 11, 11, 21, 22), 0);
        Due.be("39 the TEXT told last still counts here", x.why(0), 1);
        RopeFerry y = new RopeFerry();
        y.load(0, 10, 0);
        y.keep();
        y.steps(5);
        y.keep();
        int[] ahead = {y.book(0), y.book(1)};
        y.steps(1);
        Due.be("39 TIME and TOLLS are those of all", checked(y, 1, y.book(0), y.book(1)), 0);
        Due.holds("39 they went on", y.book(0) > ahead[0] && y.book(1) > ahead[1]);
    }

    private static void checkOfTheLongest() {
        for (int seed = 1; seed <= 8; seed++) {
            RopeFerry x = new RopeFerry();
            x.seed(seed);
            x.deal(6);
            x.keep();
            int[] row = new int[60];
            for (int i = 0; i < 30; i++) {
                x.steps(1);
                row[2 * i] = x.book(0);
                row[2 * i + 1] = x.book(1);
            }
            Due.be("39 thirty STEPS", checked(x, 30, row), 0);
            row[59]++;
            Due.be("39 the sixtieth is not", checked(x, 30, row), 60);
            Due.be("39 of 29 there is one too many", checked(x, 29, row), 59);
        }
    }

    private static void checkNearTheLastStep() {
        RopeFerry x = new RopeFerry();
        for (int i = 0; i < 99; i++) {
            x.steps(100);
        }
        x.steps(97);
        x.keep();
        int time = x.book(0);
        Due.be("39 two STEPS, not 30", checked(x, 30, time + 5, 0, time + 10, 0), 0);
        Due.be("39 a third is too many", checked(x, 30, time + 5, 0, time + 10, 0, time + 15, 0), 5);
        Due.be("39 one STEP", checked(x, 1, time + 5, 0), 0);
    }

    private static int[] all(RopeFerry x) {
        int[] row = new int[130];
        int at = 0;
        for (int i = 0; i < 8; i++) {
            row[at++] = i == 5 || i == 6 ? 0 : x.count(i);
            row[at++] = x.boat(i);
            row[at++] = x.book(i);
        }
        for (int load = 0; load < x.count(0); load++) {
            for (int what = 0; what < 9; what++) {
                row[at++] = x.told(load, what);
            }
        }
        for (int key = 0; key < 3; key++) {
            row[at++] = x.why(key);
        }
        return row;
    }

    private static void change(RopeFerry x) {
        x.steps(13);
        x.deal(2);
        for (int i = 0; i < x.count(0); i++) {
            x.turns(i, (x.told(i, 0) + 1) % 6);
            x.set(i, 1, 77);
            x.set(i, 2, 1);
            x.set(i, 3, 777);
        }
        int[] v = {1, 77, 7, 7, 77, 7};
        for (int what = 0; what < 6; what++) {
            x.rule(what, v[what]);
        }
        Tape.tell(x, "toll 7");
        Tape.tell(x, "pull 7");
        Tape.tell(x, "fine 7");
        x.seed(777);
    }

    private static void keepAndBack() {
        RopeFerry x = new RopeFerry();
        Due.be("41 NO", x.back(), NO);
        x.deal(4);
        x.steps(7);
        Tape.tell(x, "pull s*2+w");
        int[] kept = all(x);
        Due.be("40 how many LOADS", x.keep(), 4);
        Due.row("40 all stays", all(x), kept);
        for (int i = 0; i < 2; i++) {
            change(x);
            Due.be("41 how many LOADS", x.back(), 4);
            Due.row("41 all is as THE IMAGE", all(x), kept);
        }
        theLastOneKept();
        noLoadsKept();
    }

    private static void theLastOneKept() {
        RopeFerry x = new RopeFerry();
        x.deal(4);
        x.keep();
        change(x);
        int[] later = all(x);
        Due.be("40 in its stead", x.keep(), 6);
        x.deal(1);
        x.steps(3);
        Due.be("41 the last one kept", x.back(), 6);
        Due.row("41 the last one kept", all(x), later);
    }

    private static void noLoadsKept() {
        RopeFerry none = new RopeFerry();
        Due.be("40 no LOADS", none.keep(), 0);
        none.deal(10);
        none.steps(30);
        Due.be("41 no LOADS", none.back(), 0);
        Due.be("41 no LOADS", none.count(0), 0);
        Due.be("41 the first is numbered 0", none.load(0, 5, 0), 0);
        Due.row("41 it is new", LoadTest.tolds(none, 0), 0, 5, 0, 0, 0, 5, 2, 0, 5);
    }

    private static void textsOfTheImage() {
        RopeFerry x = new RopeFerry();
        Tape.tell(x, "fine 1");
        x.keep();
        Tape.tell(x, "fine 2+2");
        Tape.tell(x, "pull 3");
        Due.be("41 fine by the second", x.fine(), 4);
        x.back();
        Due.be("41 fine by the first", x.fine(), 1);
        Due.be("41 one TEXT", x.count(4), 1);
        Due.be("41 no other one", x.textTold(1, 0), BAD);
        Due.be("41 none of pull", x.why(1), NONE);
        Due.be("41 the next is the second", Tape.tell(x, "toll 1+2+3"), 1);
        Due.be("41 its KEY", x.textTold(1, 0), 0);
        Due.be("41 its NUMBERS", x.textTold(1, 1), 3);
    }

    private static void whatIsNotKept() {
        RopeFerry x = new RopeFerry();
        x.load(0, 10, 0);
        x.sheet(0, 0, 2);
        x.lay(0, 3, 17);
        x.tell(1);
        x.feed(0x66696e65, 0x20352020, 0x20202020);
        x.keep();
        x.sheet(0, -1, 0);
        x.sheet(1, 1, 3);
        x.lay(0, 3, 18);
        x.tell(2);
        x.feed(0x20202020, 0x20202020, 0x202b2037);
        x.back();
        Due.be("41 SHEETS stay", x.reads(0), RopeFerry.NOTHING);
        Due.be("41 SHEETS stay", x.mark(1, 2, 5), 1);
        Due.be("41 SLOTS stay", x.rest(0, 100), 18);
        Due.be("41 numbers that wait stay", x.count(5), 2);
        Due.be("41 THE TAPE stays", x.count(6), 24);
        Due.be("41 THE TAPE stays", x.text(), 0);
        Due.be("41 fine 5 + 7", x.fine(), 12);
    }

    private static void count() {
        RopeFerry x = new RopeFerry();
        x.load(0, 10, 0);
        x.load(0, 10, 1);
        x.load(0, 10, 1);
        Tape.tell(x, "fine 7");
        Tape.tell(x, "fine 8");
        x.tell(1);
        x.tell(1);
        x.tell(1);
        x.feed(0, 0, 0);
        x.trim(5);
        x.seed(-9);
        Due.row("42 count", LoadTest.counts(x), 3, 0, 1, 1, 2, 3, 5, -9);
        x.rule(0, 1);
        Due.row("42 SIDE 1", LoadTest.counts(x), 3, 0, 1, 2, 2, 3, 5, -9);
        x.steps(4);
        Due.be("42 THE STEP", x.count(1), 4);
        for (int what : new int[] {-1, 8, LOW, HIGH}) {
            Due.be("42 BAD", x.count(what), BAD);
        }
    }
}
