/** Edges that the document names in its section 5 (SHEETS, SLOTS), for promises 29 to 37. */
public final class SheetEdgesTest {
    private static final int BAD = RopeFerry.BAD;
    private static final int NO = RopeFerry.NO;
    private static final int NONE = RopeFerry.NONE;
    private static final int NOTHING = RopeFerry.NOTHING;
    private static final int KIND = RopeFerry.KIND;
    private static final int INDEX = RopeFerry.INDEX;
    private static final int SIZE = RopeFerry.SIZE;
    private static final int LOW = Integer.MIN_VALUE;
    private static final int HIGH = Integer.MAX_VALUE;

    public static void main(String[] args) {
        fourSheetsMissingAtFirst();
        placesOfARow();
        missingOfAnyN();
        anewAll0();
        lowest16Bits();
        floatsTo99999();
        noNumber();
        pourHeldWithin1And99();
        pourBeyond();
        pourOtherwise();
        readsTheFirst();
        readsOfNoLoad();
        copyToTheEnds();
        copyAsTheyWere();
        fiveSlotsHoldNothingAtFirst();
        whatItHeld();
        loadsThatCanBeLaid();
        asItIsThen();
        itemsOfARow();
        rests();
        Due.end();
    }

    /** A place of a SHEET, by way of SLOT 4. */
    private static int place(RopeFerry x, int sheet, int place) {
        x.lay(4, 2, sheet);
        return x.item(4, place);
    }

    /** "SHEETS 0 .. 3 are ... MISSING (at first)." */
    private static void fourSheetsMissingAtFirst() {
        RopeFerry x = new RopeFerry();
        for (int sheet = 0; sheet < 4; sheet++) {
            Due.be("mark", x.mark(sheet, 0, 0), NOTHING);
            Due.be("pour", x.pour(sheet), NOTHING);
            Due.be("reads", x.reads(sheet), NOTHING);
            Due.be("slanted", x.slanted(sheet, 0), NOTHING);
            Due.be("copy", x.copy(sheet, 0, sheet, 0, 0), NOTHING);
            Due.be("lay", x.lay(0, 2, sheet), NOTHING);
        }
        for (int sheet : new int[] {-1, 4, LOW, HIGH}) {
            Due.be("sheet", x.sheet(sheet, 0, 1), BAD);
            Due.be("mark", x.mark(sheet, 0, 0), BAD);
            Due.be("pour", x.pour(sheet), BAD);
            Due.be("reads", x.reads(sheet), BAD);
            Due.be("slanted", x.slanted(sheet, 0), BAD);
            Due.be("copy", x.copy(sheet, 0, 0, 0, 0), BAD);
            Due.be("copy", x.copy(0, 0, sheet, 0, 0), BAD);
            Due.be("lay", x.lay(0, 2, sheet), BAD);
        }
        for (int sheet = 0; sheet < 4; sheet++) {
            Due.be("a row", x.sheet(sheet, sheet % 2, sheet), sheet);
            for (int other = sheet + 1; other < 4; other++) {
                Due.be("the others stay MISSING", x.reads(other), NOTHING);
            }
        }
    }

    /** "With 0 to 24 places"; "all 0"; "INDEX: there is no such place." */
    private static void placesOfARow() {
        for (int sort = 0; sort < 2; sort++) {
            for (int n = 0; n <= 24; n++) {
                RopeFerry x = new RopeFerry();
                Due.be("how many", x.sheet(1, sort, n), n);
                x.lay(0, 2, 1);
                for (int place = 0; place < n; place++) {
                    Due.be("all 0", x.item(0, place), 0);
                    Due.be("a place", x.mark(1, place, place + 1), 1);
                }
                for (int none : new int[] {-1, n, n + 1, LOW, HIGH}) {
                    Due.be("no such place of " + n, x.mark(1, none, 1), INDEX);
                    Due.be("no such place of " + n, x.item(0, none), INDEX);
                }
                x.lay(0, 2, 1);
                for (int place = 0; place < n; place++) {
                    Due.be("each its own", x.item(0, place), place + 1);
                }
            }
            RopeFerry x = new RopeFerry();
            for (int n : new int[] {25, 26, HIGH}) {
                Due.be("n above 24", x.sheet(1, sort, n), BAD);
                Due.be("it stays MISSING", x.reads(1), NOTHING);
            }
            for (int n : new int[] {-1, -2, LOW}) {
                Due.be("n below 0", x.sheet(1, sort, n), SIZE);
                Due.be("it stays MISSING", x.reads(1), NOTHING);
            }
        }
    }

    /** "(sort -1: MISSING, n any): n (0)." */
    private static void missingOfAnyN() {
        for (int n : new int[] {0, 1, 24, 25, -1, LOW, HIGH}) {
            RopeFerry x = new RopeFerry();
            Due.be("MISSING already", x.sheet(2, -1, n), 0);
            Due.be("MISSING", x.reads(2), NOTHING);
            x.sheet(2, 1, 3);
            Due.be("MISSING again", x.sheet(2, -1, n), 0);
            Due.be("MISSING", x.reads(2), NOTHING);
        }
        RopeFerry x = new RopeFerry();
        for (int sort : new int[] {-2, 2, LOW, HIGH}) {
            Due.be("no such sort", x.sheet(2, sort, 1), BAD);
        }
    }

    /** "A SHEET becomes a row of n places of a sort, all 0": whatever it was. */
    private static void anewAll0() {
        for (int first = 0; first < 2; first++) {
            for (int then = 0; then < 2; then++) {
                RopeFerry x = new RopeFerry();
                x.sheet(0, first, 24);
                for (int place = 0; place < 24; place++) {
                    x.mark(0, place, first == 1 && place % 2 == 0 ? NONE : 9);
                }
                x.sheet(0, then, 3);
                x.sheet(0, then, 24);
                x.lay(0, 2, 0);
                for (int place = 0; place < 24; place++) {
                    Due.be("all 0", x.item(0, place), 0);
                }
                Due.be("of that sort", x.mark(0, 0, NONE), then == 0 ? KIND : 1);
                Due.be("of that sort", x.mark(0, 0, 100000), then == 0 ? 1 : BAD);
            }
        }
    }

    /** "Of shorts its lowest 16 bits." */
    private static void lowest16Bits() {
        int[][] marks = {{0, 0}, {1, 1}, {-1, -1}, {32767, 32767}, {32768, -32768}, {-32768, -32768}, {-32769, 32767},
            {65535, -1}, {65536, 0}, {65537, 1}, {-65536, 0}, {HIGH, -1}, {LOW, 0}, {99999, -31073}, {100000, -31072},
            {NONE + 1, (NONE + 1) << 16 >> 16}, {NONE - 1, (NONE - 1) << 16 >> 16}, {BAD, BAD << 16 >> 16}};
        RopeFerry x = new RopeFerry();
        x.sheet(0, 0, 2);
        for (int[] row : marks) {
            Due.be("mark " + row[0], x.mark(0, 1, row[0]), 1);
            Due.be("it is its lowest 16 bits", place(x, 0, 1), row[1]);
            Due.be("no other place", place(x, 0, 0), 0);
        }
    }

    /** "Of floats v, -99999 .. 99999." */
    private static void floatsTo99999() {
        RopeFerry x = new RopeFerry();
        x.sheet(0, 1, 2);
        for (int v : new int[] {99999, -99999, 99998, -99998, 65536, 32768, -32769, 1, -1, 0}) {
            Due.be("mark " + v, x.mark(0, 1, v), 1);
            Due.be("it is", place(x, 0, 1), v);
        }
        x.mark(0, 1, 7);
        for (int v : new int[] {100000, -100000, HIGH, LOW, NONE + 1, NONE - 1, BAD, NO}) {
            Due.be("mark " + v, x.mark(0, 1, v), BAD);
            Due.be("it stays", place(x, 0, 1), 7);
        }
    }

    /** "A place of floats may be NO NUMBER"; "KIND: NONE in a row of shorts." */
    private static void noNumber() {
        RopeFerry x = new RopeFerry();
        x.sheet(0, 1, 24);
        x.sheet(1, 0, 24);
        for (int place : new int[] {0, 23}) {
            Due.be("floats", x.mark(0, place, NONE), 1);
            Due.be("NO NUMBER", place(x, 0, place), KIND);
            Due.be("a number again", x.mark(0, place, 4), 1);
            Due.be("a number again", place(x, 0, place), 4);
            x.mark(1, place, 4);
            Due.be("shorts", x.mark(1, place, NONE), KIND);
            Due.be("it stays", place(x, 1, place), 4);
        }
    }

    private static RopeFerry poured(int sort, int weight, int v) {
        RopeFerry x = new RopeFerry();
        x.load(0, weight, 0);
        x.sheet(0, sort, 1);
        x.mark(0, 0, v);
        return x;
    }

    /** "Each held within 1 .. 99." */
    private static void pourHeldWithin1And99() {
        int[][] due = {{0, 1}, {1, 1}, {2, 2}, {98, 98}, {99, 99}, {100, 99}, {-1, 1}, {32767, 99}, {-32768, 1}};
        for (int sort = 0; sort < 2; sort++) {
            for (int[] row : due) {
                RopeFerry x = poured(sort, 50, row[0]);
                Due.be("pour " + row[0], x.pour(0), 1);
                Due.be("WEIGHT", x.told(0, 1), row[1]);
                Due.be("the SHEET stays", place(x, 0, 0), row[0]);
                Due.be("again", x.pour(0), 0);
            }
        }
        RopeFerry x = poured(1, 50, -99999);
        Due.be("the least float", x.pour(0), 1);
        Due.be("WEIGHT", x.told(0, 1), 1);
        x.mark(0, 0, 99999);
        Due.be("the highest float", x.pour(0), 1);
        Due.be("WEIGHT", x.told(0, 1), 99);
    }

    /** "NO NUMBER, and beyond the SHEET: they stay." */
    private static void pourBeyond() {
        for (int loads : new int[] {0, 1, 9, 10}) {
            for (int places : new int[] {0, 1, 9, 10, 11, 24}) {
                RopeFerry x = Ferries.withCarts(loads);
                x.sheet(0, 0, places);
                for (int place = 0; place < places; place++) {
                    x.mark(0, place, 20 + place);
                }
                Due.be(places + " places to " + loads + " LOADS", x.pour(0), Math.min(loads, places));
                for (int load = 0; load < loads; load++) {
                    Due.be("WEIGHT", x.told(load, 1), load < places ? 20 + load : 10);
                }
            }
        }
        RopeFerry x = Ferries.withCarts(3);
        x.sheet(0, 1, 3);
        for (int place = 0; place < 3; place++) {
            x.mark(0, place, place == 1 ? 30 : NONE);
        }
        Due.be("one number", x.pour(0), 1);
        Due.row("WEIGHTS", new int[] {x.told(0, 1), x.told(1, 1), x.told(2, 1)}, 10, 30, 10);
    }

    /** "How many are otherwise then": than they were. */
    private static void pourOtherwise() {
        Due.be("the same", poured(0, 50, 50).pour(0), 0);
        Due.be("one more", poured(0, 50, 51).pour(0), 1);
        Due.be("held at 99 it is the same", poured(0, 99, 100).pour(0), 0);
        Due.be("held at 1 it is the same", poured(0, 1, 0).pour(0), 0);
        Due.be("held at 99 it is otherwise", poured(0, 98, 100).pour(0), 1);
        Due.be("held at 1 it is otherwise", poured(0, 2, 0).pour(0), 1);
    }

    /** "The first place (of numbers alone) at which a SHEET is not WAITS of that LOAD"; "NONE: there is none." */
    private static void readsTheFirst() {
        for (int sort = 0; sort < 2; sort++) {
            RopeFerry x = Ferries.withCarts(10);
            x.sheet(0, sort, 10);
            for (int load = 0; load < 10; load++) {
                x.set(load, 3, 50 * load);
                x.mark(0, load, 50 * load);
            }
            Due.be("all are", x.reads(0), NONE);
            for (int load = 9; load >= 0; load--) {
                x.mark(0, load, 50 * load + (load % 2 == 0 ? 1 : -1));
                Due.be("the first", x.reads(0), load);
            }
        }
        RopeFerry x = Ferries.withCarts(2);
        x.sheet(0, 1, 2);
        x.mark(0, 0, NONE);
        Due.be("NO NUMBER at the first", x.reads(0), NONE);
        x.mark(0, 1, 1);
        Due.be("the second is not", x.reads(0), 1);
        x.mark(0, 1, NONE);
        Due.be("NO NUMBER alone", x.reads(0), NONE);
        x.set(0, 3, 9999);
        x.mark(0, 0, 9999);
        Due.be("9999", x.reads(0), NONE);
        x.sheet(1, 0, 0);
        Due.be("no places", x.reads(1), NONE);
    }

    /** "(of places that are no LOAD all numbers are not)." */
    private static void readsOfNoLoad() {
        for (int loads = 0; loads <= 10; loads++) {
            RopeFerry x = Ferries.withCarts(loads);
            x.sheet(0, 0, 24);
            Due.be("24 places, LOADS " + loads, x.reads(0), loads);
            x.sheet(0, 0, loads);
            Due.be("as many places", x.reads(0), NONE);
            x.sheet(0, 1, 24);
            for (int place = loads; place < 24; place++) {
                x.mark(0, place, NONE);
            }
            Due.be("NO NUMBER there", x.reads(0), NONE);
            x.mark(0, 23, 0);
            Due.be("the last place of all", x.reads(0), 23);
        }
    }

    private static RopeFerry rows(int first, int second) {
        RopeFerry x = new RopeFerry();
        x.sheet(0, 0, first);
        x.sheet(1, 0, second);
        for (int place = 0; place < first; place++) {
            x.mark(0, place, 1 + place);
        }
        return x;
    }

    /** "So many places of a SHEET come to another one": up to the ends of both, and none too. */
    private static void copyToTheEnds() {
        for (int first : new int[] {0, 1, 3, 24}) {
            for (int second : new int[] {0, 1, 3, 24}) {
                for (int many : new int[] {0, 1, 2, 3, 4, 24, 25, -1}) {
                    RopeFerry x = rows(first, second);
                    boolean fits = many >= 0 && many <= first && many <= second;
                    Due.be(many + " of " + first + " to " + second, x.copy(0, 0, 1, 0, many), fits ? many : INDEX);
                    Due.be("its last places", x.copy(0, first - many, 1, second - many, many), fits ? many : INDEX);
                    Due.be("one place too far from", x.copy(0, first - many + 1, 1, 0, many), INDEX);
                    Due.be("one place too far to", x.copy(0, 0, 1, second - many + 1, many), INDEX);
                    Due.be("from one place ahead", x.copy(0, -1, 1, 0, many), INDEX);
                    Due.be("to one place ahead", x.copy(0, 0, 1, -1, many), INDEX);
                    for (int place = 0; place < second; place++) {
                        int due = fits && place >= second - many ? first - second + place + 1 : place < many ? place + 1 : 0;
                        Due.be("what came", place(x, 1, place), fits ? due : 0);
                    }
                }
            }
        }
    }

    /** "(or the same), as they were." */
    private static void copyAsTheyWere() {
        for (int from = 0; from <= 4; from++) {
            for (int at = 0; at <= 4; at++) {
                for (int many = 0; many <= 4; many++) {
                    RopeFerry x = rows(5, 0);
                    boolean fits = from + many <= 5 && at + many <= 5;
                    Due.be(many + " from " + from + " to " + at, x.copy(0, from, 0, at, many), fits ? many : INDEX);
                    for (int place = 0; place < 5; place++) {
                        boolean came = fits && place >= at && place < at + many;
                        Due.be("place " + place, place(x, 0, place), came ? from + place - at + 1 : place + 1);
                    }
                }
            }
        }
        RopeFerry x = new RopeFerry();
        x.sheet(0, 1, 3);
        x.mark(0, 0, NONE);
        x.mark(0, 1, 6);
        x.copy(0, 0, 0, 1, 2);
        Due.row("NO NUMBER too", new int[] {place(x, 0, 0), place(x, 0, 1), place(x, 0, 2)}, KIND, KIND, 6);
    }

    /** "SLOTS 0 .. 4 each hold nothing (at first)." */
    private static void fiveSlotsHoldNothingAtFirst() {
        RopeFerry x = new RopeFerry();
        for (int slot = 0; slot < 5; slot++) {
            Due.be("ask", x.ask(slot, 0), NOTHING);
            Due.be("item", x.item(slot, 0), NOTHING);
            Due.be("rest", x.rest(slot, 1), NOTHING);
            Due.be("lay", x.lay(slot, 3, slot), 0);
        }
        for (int slot = 0; slot < 5; slot++) {
            Due.be("each its own", x.rest(slot, 100), slot);
        }
        for (int slot : new int[] {-1, 5, LOW, HIGH}) {
            Due.be("ask", x.ask(slot, 0), BAD);
            Due.be("item", x.item(slot, 0), BAD);
            Due.be("rest", x.rest(slot, 1), BAD);
            Due.be("lay", x.lay(slot, 0, 0), BAD);
        }
    }

    /** "What it held (0 .. 3)": each thing behind each. */
    private static void whatItHeld() {
        for (int slot = 0; slot < 5; slot++) {
            RopeFerry x = Ferries.withCarts(1);
            x.sheet(0, 0, 1);
            for (int first = 0; first < 4; first++) {
                for (int then = 0; then < 4; then++) {
                    x.lay(slot, first, 0);
                    Due.be("thing " + then + " behind " + first, x.lay(slot, then, 0), first);
                    Due.be("ask", x.ask(slot, 0), then == 0 ? NOTHING : then == 1 ? 10 : KIND);
                    Due.be("item", x.item(slot, 0), then == 0 ? NOTHING : then == 2 ? 0 : KIND);
                    Due.be("rest", x.rest(slot, 1), then == 0 ? NOTHING : then == 3 ? 0 : KIND);
                }
            }
            for (int wrong : new int[] {-1, 4, LOW, HIGH}) {
                Due.be("no such thing", x.lay(slot, wrong, 0), BAD);
            }
            Due.be("it stays", x.lay(slot, 0, 0), 3);
        }
    }

    /** "1 LOAD k": of as many as there are. */
    private static void loadsThatCanBeLaid() {
        for (int loads = 0; loads <= 10; loads++) {
            RopeFerry x = Ferries.withCarts(loads);
            for (int load = 0; load < loads; load++) {
                x.set(load, 1, 20 + load);
                Due.be("LOAD " + load + " of " + loads, x.lay(2, 1, load), load == 0 ? 0 : 1);
                Due.be("that one", x.ask(2, 0), 20 + load);
            }
            for (int none : new int[] {-1, loads, LOW, HIGH}) {
                Due.be("no such LOAD of " + loads, x.lay(2, 1, none), BAD);
            }
        }
    }

    /** "A LOAD (as it is then, for good), a SHEET (a row of its own, as it was then)." */
    private static void asItIsThen() {
        RopeFerry x = new RopeFerry();
        x.load(4, 20, 0);
        x.sheet(0, 0, 2);
        x.mark(0, 1, 5);
        x.lay(0, 1, 0);
        x.lay(1, 2, 0);
        x.turns(0, 3);
        x.set(0, 1, 90);
        x.mark(0, 1, 6);
        x.lay(2, 1, 0);
        x.lay(3, 2, 0);
        x.turns(0, 5);
        x.sheet(0, 1, 1);
        Due.be("a HERD of 20", x.ask(0, 2), 72);
        Due.be("a HEARSE of 90", x.ask(2, 1), 196);
        Due.be("a HEARSE is no FLOCK", x.ask(2, 2), KIND);
        Due.be("5 then", x.item(1, 1), 5);
        Due.be("6 then", x.item(3, 1), 6);
        x.sheet(0, -1, 0);
        Due.be("though the SHEET is MISSING", x.item(1, 1), 5);
        x.lay(4, 2, 0);
        Due.be("nothing is held of it", x.item(4, 0), NOTHING);
    }

    /** "A place of the SHEET in a SLOT": from the first to the last of as many as it had. */
    private static void itemsOfARow() {
        for (int n : new int[] {0, 1, 23, 24}) {
            RopeFerry x = new RopeFerry();
            x.sheet(0, 1, n);
            x.mark(0, 0, 11);
            x.mark(0, n - 1, 22);
            x.lay(0, 2, 0);
            x.sheet(0, 1, 24 - n);
            Due.be("the first of " + n, x.item(0, 0), n == 0 ? INDEX : n == 1 ? 22 : 11);
            Due.be("the last of " + n, x.item(0, n - 1), n == 0 ? INDEX : 22);
            for (int none : new int[] {-1, n, LOW, HIGH}) {
                Due.be("none of " + n, x.item(0, none), INDEX);
            }
        }
    }

    /** "The rest of the number in a SLOT by n"; "NO: n is 0." */
    private static void rests() {
        int[][] due = {{7, 3, 1}, {-7, 3, -1}, {7, -3, 1}, {-7, -3, -1}, {0, 5, 0}, {6, 3, 0}, {6, 7, 6}, {6, 6, 0},
            {LOW, -1, 0}, {LOW, 1, 0}, {LOW, LOW, 0}, {LOW, HIGH, -1}, {HIGH, LOW, HIGH}, {HIGH, -1, 0}, {-1, LOW, -1},
            {HIGH, 0, NO}, {LOW, 0, NO}, {0, 0, NO}};
        RopeFerry x = new RopeFerry();
        for (int[] row : due) {
            x.lay(0, 3, row[0]);
            Due.be(row[0] + " by " + row[1], x.rest(0, row[1]), row[2]);
        }
    }
}
