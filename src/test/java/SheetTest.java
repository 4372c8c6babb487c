/** Promises 29 to 37: sheets, slots. */
public final class SheetTest {
    private static final int BAD = RopeFerry.BAD;
    private static final int NO = RopeFerry.NO;
    private static final int NONE = RopeFerry.NONE;
    private static final int NOTHING = RopeFerry.NOTHING;
    private static final int KIND = RopeFerry.KIND;
    private static final int INDEX = RopeFerry.INDEX;
    private static final int SIZE = RopeFerry.SIZE;
    private static final int LOW = Integer.MIN_VALUE;
    private static final int HIGH = Integer.MAX_VALUE;

    public static void main(String[] args) {
        sheet();
        mark();
        markRefused();
        pour();
        pourEdges();
        reads();
        copy();
        copyRefused();
        lay();
        laidForGood();
        ask();
        item();
        rest();
        Due.end();
    }

    /** A place of a SHEET, told by way of SLOT 4. */
    private static int place(RopeFerry x, int sheet, int place) {
        x.lay(4, 2, sheet);
        return x.item(4, place);
    }

    private static int[] row(RopeFerry x, int sheet, int n) {
        int[] places = new int[n];
        for (int i = 0; i < n; i++) {
            places[i] = place(x, sheet, i);
        }
        Due.be("29 no place behind", place(x, sheet, n), INDEX);
        return places;
    }

    private static void fill(RopeFerry x, int sheet, int sort, int... places) {
        x.sheet(sheet, sort, places.length);
        for (int i = 0; i < places.length; i++) {
            x.mark(sheet, i, places[i]);
        }
    }

    private static void sheet() {
        RopeFerry x = new RopeFerry();
        for (int wrong : new int[] {-1, 4, LOW, HIGH}) {
            Due.be("29 BAD sheet", x.sheet(wrong, 0, 1), BAD);
        }
        for (int wrong : new int[] {-2, 2, LOW, HIGH}) {
            Due.be("29 BAD sort", x.sheet(0, wrong, 1), BAD);
            Due.be("29 BAD stands ahead of SIZE", x.sheet(0, wrong, -1), BAD);
        }
        Due.be("29 BAD stands ahead of SIZE", x.sheet(4, 0, -1), BAD);
        for (int sort = 0; sort < 2; sort++) {
            Due.be("29 BAD n", x.sheet(0, sort, 25), BAD);
            Due.be("29 BAD n", x.sheet(0, sort, HIGH), BAD);
            Due.be("29 SIZE", x.sheet(0, sort, -1), SIZE);
            Due.be("29 SIZE", x.sheet(0, sort, LOW), SIZE);
            Due.be("29 no places", x.sheet(sort, sort, 0), 0);
            Due.row("29 no places", row(x, sort, 0));
            Due.be("29 24 places", x.sheet(sort, sort, 24), 24);
            Due.row("29 all 0", row(x, sort, 24), new int[24]);
            x.mark(sort, 0, 5);
            x.mark(sort, 3, 5);
            Due.be("29 anew", x.sheet(sort, sort, 5), 5);
            Due.row("29 all 0 again", row(x, sort, 5), new int[5]);
        }
        x.mark(0, 1, 8);
        Due.be("29 refused, it stays", x.sheet(0, 0, -1), SIZE);
        Due.row("29 refused, it stays", row(x, 0, 5), 0, 8, 0, 0, 0);
        for (int n : new int[] {0, 24, 25, -1, LOW, HIGH}) {
            x.sheet(0, 0, 2);
            Due.be("29 MISSING, n any", x.sheet(0, -1, n), 0);
            Due.be("29 MISSING", x.reads(0), NOTHING);
        }
        Due.be("29 another stays", x.reads(1), 0);
    }

    private static void mark() {
        RopeFerry x = new RopeFerry();
        x.sheet(3, 0, 8);
        int[] v = {32767, 32768, 65535, 65536, -1, -32769, LOW, 99999};
        for (int i = 0; i < 8; i++) {
            Due.be("30 a short", x.mark(3, i, v[i]), 1);
        }
        Due.row("30 lowest 16 bits", row(x, 3, 8), 32767, -32768, -1, 0, -1, 32767, 0, (short) 99999);
        x.sheet(2, 1, 5);
        int[] w = {99999, -99999, NONE, 65536, -1};
        for (int i = 0; i < 5; i++) {
            Due.be("30 a float", x.mark(2, i, w[i]), 1);
        }
        Due.row("30 floats", row(x, 2, 5), 99999, -99999, KIND, 65536, -1);
        Due.be("30 a number again", x.mark(2, 2, 4), 1);
        Due.be("30 a number again", place(x, 2, 2), 4);
    }

    private static void markRefused() {
        RopeFerry x = new RopeFerry();
        x.sheet(0, 0, 3);
        x.sheet(1, 1, 3);
        for (int wrong : new int[] {-1, 4, LOW, HIGH}) {
            Due.be("30 BAD sheet", x.mark(wrong, 0, 0), BAD);
        }
        Due.be("30 NOTHING", x.mark(2, 0, 0), NOTHING);
        Due.be("30 NOTHING stands ahead of INDEX", x.mark(2, -1, 100000), NOTHING);
        for (int wrong : new int[] {-1, 3, 24, LOW, HIGH}) {
            Due.be("30 INDEX of shorts", x.mark(0, wrong, 0), INDEX);
            Due.be("30 INDEX stands ahead of KIND", x.mark(0, wrong, NONE), INDEX);
            Due.be("30 INDEX stands ahead of BAD v", x.mark(1, wrong, 100000), INDEX);
        }
        Due.be("30 KIND", x.mark(0, 2, NONE), KIND);
        for (int wrong : new int[] {100000, -100000, LOW, HIGH, BAD, NOTHING}) {
            Due.be("30 BAD v of floats", x.mark(1, 2, wrong), BAD);
        }
        Due.row("30 nothing changes", row(x, 0, 3), 0, 0, 0);
        Due.row("30 nothing changes", row(x, 1, 3), 0, 0, 0);
    }

    private static int[] weights(RopeFerry x) {
        int[] row = new int[x.count(0)];
        for (int i = 0; i < row.length; i++) {
            row[i] = x.told(i, 1);
        }
        return row;
    }

    private static void pour() {
        RopeFerry x = new RopeFerry();
        for (int i = 0; i < 6; i++) {
            x.load(i, 10 * (i + 1), 0);
        }
        fill(x, 0, 1, 10, 100, NONE, -5, 51);
        Due.be("31 the first is as it was, the third and last stay", x.pour(0), 3);
        Due.row("31 WEIGHTS", weights(x), 10, 99, 30, 1, 51, 60);
        Due.be("31 again", x.pour(0), 0);
        fill(x, 1, 0, 11, 0, 12, 1, 99, 32767, 44, 45);
        Due.be("31 more places than LOADS", x.pour(1), 5);
        Due.row("31 WEIGHTS", weights(x), 11, 1, 12, 1, 99, 99);
    }

    private static void pourEdges() {
        RopeFerry x = new RopeFerry();
        for (int wrong : new int[] {-1, 4, LOW, HIGH}) {
            Due.be("31 BAD", x.pour(wrong), BAD);
        }
        Due.be("31 NOTHING", x.pour(0), NOTHING);
        x.sheet(0, 0, 24);
        Due.be("31 no LOADS", x.pour(0), 0);
        x.load(0, 1, 0);
        Due.be("31 held at 1 it is as it was", x.pour(0), 0);
        x.sheet(0, 0, 0);
        x.set(0, 1, 50);
        Due.be("31 no places", x.pour(0), 0);
        Due.row("31 it stays", weights(x), 50);
    }

    private static void reads() {
        RopeFerry x = new RopeFerry();
        for (int wrong : new int[] {-1, 4, LOW, HIGH}) {
            Due.be("32 BAD", x.reads(wrong), BAD);
        }
        Due.be("32 NOTHING", x.reads(0), NOTHING);
        x.sheet(0, 0, 0);
        Due.be("32 no places", x.reads(0), NONE);
        for (int i = 0; i < 3; i++) {
            x.load(0, 10, 0);
            x.set(i, 3, 10 * i);
        }
        fill(x, 0, 0, 0, 10, 20);
        Due.be("32 as they are", x.reads(0), NONE);
        fill(x, 0, 0, 0, 11, 21);
        Due.be("32 the first", x.reads(0), 1);
        fill(x, 0, 0, 0, 10);
        Due.be("32 fewer places", x.reads(0), NONE);
        fill(x, 1, 1, NONE, NONE, 20, NONE);
        Due.be("32 of numbers alone", x.reads(1), NONE);
        fill(x, 1, 1, NONE, 10, 20, NONE, 0);
        Due.be("32 a number at no LOAD", x.reads(1), 4);
        fill(x, 1, 0, 0, 10, 20, 0);
        Due.be("32 0 at no LOAD", x.reads(1), 3);
    }

    private static void copy() {
        RopeFerry x = new RopeFerry();
        fill(x, 0, 0, 1, 2, 3, 4, 5);
        fill(x, 1, 0, 10, 20, 30);
        Due.be("33 two", x.copy(0, 3, 1, 1, 2), 2);
        Due.row("33 two", row(x, 1, 3), 10, 4, 5);
        Due.row("33 they stay there", row(x, 0, 5), 1, 2, 3, 4, 5);
        Due.be("33 to the same, behind", x.copy(0, 0, 0, 1, 4), 4);
        Due.row("33 as they were", row(x, 0, 5), 1, 1, 2, 3, 4);
        Due.be("33 to the same, ahead", x.copy(0, 1, 0, 0, 4), 4);
        Due.row("33 as they were", row(x, 0, 5), 1, 2, 3, 4, 4);
        Due.be("33 all", x.copy(1, 0, 0, 2, 3), 3);
        Due.row("33 all", row(x, 0, 5), 1, 2, 10, 4, 5);
        Due.be("33 none, at the end", x.copy(1, 3, 0, 5, 0), 0);
        Due.row("33 none", row(x, 0, 5), 1, 2, 10, 4, 5);
        fill(x, 2, 1, 7, NONE, -9);
        x.sheet(3, 1, 4);
        Due.be("33 floats", x.copy(2, 0, 3, 1, 3), 3);
        Due.row("33 NO NUMBER too", row(x, 3, 4), 0, 7, KIND, -9);
    }

    private static void copyRefused() {
        RopeFerry x = new RopeFerry();
        fill(x, 0, 0, 1, 2, 3);
        fill(x, 1, 1, 1, 2);
        fill(x, 2, 0, 7, 8);
        for (int wrong : new int[] {-1, 4, LOW, HIGH}) {
            Due.be("33 BAD from", x.copy(wrong, 0, 3, 0, 1), BAD);
            Due.be("33 BAD to", x.copy(3, 0, wrong, 0, 1), BAD);
        }
        Due.be("33 NOTHING from", x.copy(3, -1, 0, 0, 1), NOTHING);
        Due.be("33 NOTHING to", x.copy(0, -1, 3, 0, 1), NOTHING);
        Due.be("33 NOTHING stands ahead of KIND", x.copy(1, 0, 3, 0, 1), NOTHING);
        Due.be("33 KIND", x.copy(0, 0, 1, 0, 1), KIND);
        Due.be("33 KIND stands ahead of INDEX", x.copy(1, -1, 0, 99, -1), KIND);
        Due.be("33 KIND of none too", x.copy(1, 0, 0, 0, 0), KIND);
        int[][] wrong = {{-1, 0, 1}, {0, -1, 1}, {0, 0, 3}, {1, 0, 3}, {2, 0, 2}, {3, 0, 1}, {0, 1, 2}, {0, 2, 1}, {4, 0, 0},
            {0, 3, 0}, {0, 0, -1}, {3, 2, -1}, {HIGH, 0, 1}, {0, HIGH, 1}, {0, 0, HIGH}, {HIGH, 0, HIGH}, {1, 1, HIGH},
            {LOW, 0, 1}, {0, LOW, 1}, {0, 0, LOW}, {LOW, LOW, LOW}, {LOW, 0, LOW}, {HIGH, HIGH, LOW}};
        for (int[] one : wrong) {
            Due.be("33 INDEX", x.copy(0, one[0], 2, one[1], one[2]), INDEX);
        }
        Due.row("33 nothing changes", row(x, 2, 2), 7, 8);
    }

    private static void lay() {
        RopeFerry x = new RopeFerry();
        x.load(0, 10, 0);
        x.sheet(0, 0, 1);
        for (int wrong : new int[] {-1, 5, LOW, HIGH}) {
            Due.be("34 BAD slot", x.lay(wrong, 0, 0), BAD);
            Due.be("34 BAD slot", x.lay(wrong, 2, 1), BAD);
        }
        for (int wrong : new int[] {-1, 4, LOW, HIGH}) {
            Due.be("34 BAD thing", x.lay(0, wrong, 0), BAD);
            Due.be("34 BAD SHEET", x.lay(0, 2, wrong), BAD);
        }
        for (int wrong : new int[] {-1, 1, LOW, HIGH}) {
            Due.be("34 BAD LOAD", x.lay(0, 1, wrong), BAD);
        }
        for (int missing = 1; missing < 4; missing++) {
            Due.be("34 NOTHING", x.lay(0, 2, missing), NOTHING);
        }
        int[][] turns = {{1, 0, 0}, {1, 0, 1}, {2, 0, 1}, {2, 0, 2}, {3, LOW, 2}, {3, HIGH, 3}, {0, LOW, 3}, {0, HIGH, 0}};
        for (int slot = 0; slot < 5; slot++) {
            for (int[] turn : turns) {
                Due.be("34 what it held", x.lay(slot, turn[0], turn[1]), turn[2]);
            }
        }
        x.lay(0, 3, 8);
        x.lay(0, 1, 1);
        x.lay(0, 2, 3);
        x.lay(0, 4, 3);
        Due.be("34 refused, it stays", x.rest(0, 5), 3);
    }

    private static void laidForGood() {
        RopeFerry x = new RopeFerry();
        x.load(1, 10, 0);
        fill(x, 0, 1, 5, NONE, 7);
        x.lay(0, 1, 0);
        x.lay(1, 2, 0);
        x.set(0, 1, 50);
        x.turns(0, 2);
        x.mark(0, 0, 6);
        x.mark(0, 1, 8);
        x.copy(0, 0, 0, 2, 1);
        Due.be("34 the LOAD as it was then", x.ask(0, 1), 18);
        Due.be("34 the row as it was then", x.item(1, 0), 5);
        Due.be("34 NO NUMBER as it was then", x.item(1, 1), KIND);
        Due.be("34 the row as it was then", x.item(1, 2), 7);
        x.sheet(0, -1, 0);
        Due.be("34 though the SHEET is MISSING now", x.item(1, 2), 7);
        x.sheet(0, 0, 1);
        x.lay(2, 2, 0);
        Due.be("34 each SLOT a row of its own", x.item(1, 2), 7);
        x.keep();
        x.load(0, 3, 0);
        x.lay(3, 1, 1);
        x.back();
        Due.be("34 though the LOAD is gone", x.ask(3, 0), 3);
    }

    private static void ask() {
        RopeFerry x = new RopeFerry();
        String[] isOf = {"100000", "110000", "101000", "110100", "101010", "100001"};
        int[] worth = {20, 28, 79, 56, 72, 5};
        for (int kind = 0; kind < 6; kind++) {
            x.load(kind, 20, 0);
            x.lay(1, 1, kind);
            for (int wanted = 0; wanted < 6; wanted++) {
                boolean is = isOf[kind].charAt(wanted) == '1';
                Due.be("35 " + kind + " for " + wanted, x.ask(1, wanted), is ? worth[kind] : KIND);
            }
        }
        x.sheet(0, 0, 1);
        x.lay(2, 2, 0);
        x.lay(3, 3, 0);
        Due.be("35 a SHEET is no LOAD", x.ask(2, 0), KIND);
        Due.be("35 a number is no LOAD", x.ask(3, 0), KIND);
        Due.be("35 NOTHING", x.ask(0, 0), NOTHING);
        for (int wrong : new int[] {-1, 5, LOW, HIGH}) {
            Due.be("35 BAD slot", x.ask(wrong, 0), BAD);
        }
        for (int wrong : new int[] {-1, 6, LOW, HIGH}) {
            Due.be("35 BAD kind", x.ask(1, wrong), BAD);
            Due.be("35 BAD stands ahead of NOTHING", x.ask(0, wrong), BAD);
            Due.be("35 BAD stands ahead of KIND", x.ask(2, wrong), BAD);
        }
    }

    private static void item() {
        RopeFerry x = new RopeFerry();
        x.load(0, 10, 0);
        fill(x, 0, 1, 5, NONE, -7);
        x.lay(1, 2, 0);
        x.lay(2, 1, 0);
        x.lay(3, 3, 0);
        Due.be("36 a place", x.item(1, 0), 5);
        Due.be("36 NO NUMBER", x.item(1, 1), KIND);
        Due.be("36 the last", x.item(1, 2), -7);
        for (int wrong : new int[] {-1, 3, 24, LOW, HIGH}) {
            Due.be("36 INDEX", x.item(1, wrong), INDEX);
            Due.be("36 NOTHING", x.item(0, wrong), NOTHING);
            Due.be("36 a LOAD is no SHEET", x.item(2, wrong), KIND);
            Due.be("36 a number is no SHEET", x.item(3, wrong), KIND);
        }
        for (int wrong : new int[] {-1, 5, LOW, HIGH}) {
            Due.be("36 BAD", x.item(wrong, 0), BAD);
        }
    }

    private static void rest() {
        RopeFerry x = new RopeFerry();
        x.load(0, 10, 0);
        x.sheet(0, 0, 1);
        x.lay(0, 1, 0);
        x.lay(1, 2, 0);
        x.lay(2, 3, 17);
        x.lay(3, 3, LOW);
        int[][] due = {{2, 5, 2}, {2, -5, 2}, {2, 17, 0}, {2, 18, 17}, {2, 1, 0}, {2, -1, 0}, {2, LOW, 17}, {3, 5, -3},
            {3, -5, -3}, {3, -1, 0}, {3, 1, 0}, {3, LOW, 0}, {3, HIGH, -1}};
        for (int[] one : due) {
            Due.be("37 by " + one[1], x.rest(one[0], one[1]), one[2]);
        }
        Due.be("37 NO", x.rest(2, 0), NO);
        Due.be("37 a LOAD is no number, ahead of NO", x.rest(0, 0), KIND);
        Due.be("37 a SHEET is no number, ahead of NO", x.rest(1, 0), KIND);
        Due.be("37 NOTHING, ahead of NO", x.rest(4, 0), NOTHING);
        for (int wrong : new int[] {-1, 5, LOW, HIGH}) {
            Due.be("37 BAD", x.rest(wrong, 0), BAD);
        }
    }
}
