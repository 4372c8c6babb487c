/** Edges that the document names in its section 1 (LOADS, THE BOAT, PULL), for promises 1 to 12. */
public final class LoadEdgesTest {
    private static final int BAD = RopeFerry.BAD;
    private static final int FULL = RopeFerry.FULL;
    private static final int LOW = Integer.MIN_VALUE;
    private static final int HIGH = Integer.MAX_VALUE;

    public static void main(String[] args) {
        calls512();
        setsAreBits();
        tenLoadsAtMost();
        firstValues();
        weights();
        banks();
        waits();
        kinds();
        rules();
        tollIsHeld();
        paysWithoutText();
        urges();
        worth();
        pullIsHeld();
        pullIsCut();
        effect();
        minutes();
        roomOfEachKind();
        whatIsLeftOfRoom();
        markOfLoading();
        whoUrgesMost();
        allTenAboard();
        dealtLoads();
        dealAsManyAsThereIsRoomFor();
        seeds();
        Due.end();
    }

    /** "An object is used for at most 512 calls after it has been made." */
    private static void calls512() {
        RopeFerry x = new RopeFerry();
        for (int i = 1; i <= 510; i++) {
            x.seed(i);
        }
        Due.be("the 511th call", x.seed(511), 510);
        Due.be("the 512th call", x.seed(512), 511);
    }

    /** "Sets of LOADS are told as bits (bit k for number k)." */
    private static void setsAreBits() {
        for (int k = 0; k < 10; k++) {
            RopeFerry x = Ferries.withCarts(10);
            x.rule(0, 1);
            x.set(k, 2, 1);
            Due.be("bit " + k + " of LOADING", x.loading(), 1 << k);
            Due.be("bit " + k + " of BEST LOADING", x.best(0), 1 << k);
        }
        Due.be("no bit for nobody", new RopeFerry().loading(), 0);
    }

    /** "LOADS, 10 at most, numbered from 0." */
    private static void tenLoadsAtMost() {
        RopeFerry x = new RopeFerry();
        for (int k = 0; k < 10; k++) {
            Due.be("its number", x.load(0, 1 + k, 0), k);
            Due.be("how many", x.count(0), k + 1);
            Due.be("that LOAD", x.told(k, 1), 1 + k);
            Due.be("none behind it", x.told(k + 1, 1), BAD);
        }
        Due.be("the eleventh", x.load(0, 1, 0), FULL);
        Due.be("ten stay", x.count(0), 10);
        RopeFerry y = Ferries.withCarts(9);
        Due.be("one more of ten is drawn", y.deal(1), 1);
        Due.be("the eleventh", y.load(0, 1, 0), FULL);
    }

    /** "SIDE 0 or 1 (0 at first), SLANT (30), ROOM (6), STREAM (40 at first), MARK (300), LEAST (1)": all else is 0. */
    private static void firstValues() {
        RopeFerry x = new RopeFerry();
        Due.row("THE BOAT, the river", LoadTest.boats(x), 0, 30, 6, 40, 300, 1, 30, 11);
        Due.row("TIME, TOLLS, WAITS, OVER", LoadTest.books(x), 0, 0, 0, 0);
        Due.row("LOADS, THE STEP, TEXTS, rows, z", LoadTest.counts(x), 0, 0, 0, 0, 0, 0, 0, 1);
        x.load(2, 7, 1);
        Due.be("WAITS are 0 at first", x.told(0, 3), 0);
        Due.be("OVER is 0 at first", x.told(0, 4), 0);
    }

    /** "WEIGHT 1 .. 99", by load and by set. */
    private static void weights() {
        for (int weight : new int[] {1, 99}) {
            RopeFerry x = new RopeFerry();
            Due.be("a LOAD of " + weight, x.load(0, weight, 0), 0);
            Due.be("WEIGHT", x.told(0, 1), weight);
            x.set(0, 1, 50);
            Due.be("becomes " + weight, x.set(0, 1, weight), 50);
            Due.be("WEIGHT", x.told(0, 1), weight);
        }
        for (int weight : new int[] {0, 100, -1, LOW, HIGH}) {
            RopeFerry x = new RopeFerry();
            Due.be("no LOAD of " + weight, x.load(0, weight, 0), BAD);
            Due.be("none came", x.count(0), 0);
            x.load(0, 50, 0);
            Due.be("never becomes " + weight, x.set(0, 1, weight), BAD);
            Due.be("WEIGHT stays", x.told(0, 1), 50);
        }
    }

    /** "BANK 0 or 1 (where it is)", by load and by set. */
    private static void banks() {
        for (int bank = 0; bank < 2; bank++) {
            RopeFerry x = new RopeFerry();
            Due.be("on BANK " + bank, x.load(0, 5, bank), 0);
            Due.be("BANK", x.told(0, 2), bank);
            Due.be("those on BANK 0", x.count(2), 1 - bank);
            Due.be("to the other one", x.set(0, 2, 1 - bank), bank);
            Due.be("BANK", x.told(0, 2), 1 - bank);
            for (int wrong : new int[] {-1, 2, LOW, HIGH}) {
                Due.be("no such BANK", x.load(0, 5, wrong), BAD);
                Due.be("no such BANK", x.set(0, 2, wrong), BAD);
            }
            Due.be("BANK stays", x.told(0, 2), 1 - bank);
            Due.be("none came", x.count(0), 1);
        }
    }

    /** "WAITS (0 .. 9999)" are what set takes; by STEPS they grow beyond. */
    private static void waits() {
        RopeFerry x = new RopeFerry();
        x.load(0, 99, 0);
        x.rule(4, 81);
        Due.be("the most", x.set(0, 3, 9999), 0);
        Due.be("one more", x.set(0, 3, 10000), BAD);
        Due.be("below 0", x.set(0, 3, -1), BAD);
        Due.be("they stay", x.told(0, 3), 9999);
        x.steps(1);
        Due.be("too heavy, it waits beyond 9999", x.told(0, 3), 10010);
        Due.be("what they were may be beyond", x.set(0, 3, 0), 10010);
        Due.be("the least", x.told(0, 3), 0);
    }

    /** "0 CART; 1 COACH, 2 FLOCK, 5 DOCTOR, under CART; 3 HEARSE, under COACH; 4 HERD, under FLOCK (all are CARTS)." */
    private static void kinds() {
        int[] above = {-1, 0, 0, 1, 2, 0};
        for (int kind = 0; kind < 6; kind++) {
            RopeFerry x = new RopeFerry();
            Due.be("a LOAD of KIND " + kind, x.load(kind, 5, 0), 0);
            x.lay(0, 1, 0);
            for (int wanted = -1; wanted <= 6; wanted++) {
                boolean is = wanted == kind || wanted == 0 || wanted == above[kind];
                boolean none = wanted < 0 || wanted > 5;
                Due.be(kind + " as " + wanted, x.as(0, wanted), none ? BAD : is ? 5 : RopeFerry.KIND);
                Due.be(kind + " for " + wanted, x.ask(0, wanted), none ? BAD : is ? x.told(0, 8) : RopeFerry.KIND);
            }
            x.set(0, 3, 70);
            Due.be("it was " + kind, x.turns(0, 5 - kind), kind);
            Due.be("it is the other one", x.told(0, 0), 5 - kind);
            Due.row("all else stays", new int[] {x.told(0, 1), x.told(0, 2), x.told(0, 3), x.told(0, 4)}, 5, 0, 70, 0);
        }
        for (int wrong : new int[] {-1, 6, LOW, HIGH}) {
            RopeFerry x = Ferries.withCarts(1);
            Due.be("no such KIND", x.load(wrong, 5, 0), BAD);
            Due.be("no such KIND", x.turns(0, wrong), BAD);
            Due.be("KIND stays", x.told(0, 0), 0);
        }
    }

    /** "SIDE 0 or 1, SLANT 0 .. 90, ROOM 1 .. 20, STREAM 0 .. 99, MARK 1 .. 9999, LEAST 0 .. 10." */
    private static void rules() {
        int[] lowest = {0, 0, 1, 0, 1, 0};
        int[] highest = {1, 90, 20, 99, 9999, 10};
        for (int what = 0; what < 6; what++) {
            for (int v : new int[] {lowest[what], highest[what]}) {
                RopeFerry x = new RopeFerry();
                int was = x.boat(what);
                Due.be("what it was", x.rule(what, v), was);
                Due.be("what it is", x.boat(what), v);
                int[] stays = LoadTest.boats(x);
                for (int wrong : new int[] {lowest[what] - 1, highest[what] + 1, LOW, HIGH}) {
                    Due.be("rule " + what + " is never " + wrong, x.rule(what, wrong), BAD);
                }
                Due.row("all stays", LoadTest.boats(x), stays);
            }
        }
    }

    /** "What toll gives, held within 0 .. 999", and what each KIND makes of it ("0 at least", "half (cut)"). */
    private static void tollIsHeld() {
        int[][] pays = {{-1, 0, 0, 0, 0, 3, 0}, {0, 0, 0, 0, 0, 3, 0}, {1, 1, 2, 0, 0, 3, 0}, {2, 2, 4, 1, 0, 4, 0},
            {4, 4, 8, 2, 0, 5, 0}, {5, 5, 10, 2, 0, 5, 0}, {6, 6, 12, 3, 2, 6, 0}, {7, 7, 14, 3, 4, 6, 0},
            {998, 998, 1996, 499, 1986, 502, 0}, {999, 999, 1998, 499, 1988, 502, 0},
            {1000, 999, 1998, 499, 1988, 502, 0}, {9998, 999, 1998, 499, 1988, 502, 0}};
        RopeFerry x = new RopeFerry();
        for (int kind = 0; kind < 6; kind++) {
            x.load(kind, 50, 0);
        }
        Tape.tell(x, "toll v-1");
        for (int[] row : pays) {
            for (int kind = 0; kind < 6; kind++) {
                x.set(kind, 3, row[0] + 1);
                Due.be("KIND " + kind + " where toll gives " + row[0], x.told(kind, 5), row[kind + 1]);
            }
        }
        Tape.tell(x, "toll (0-4096)*4096*128");
        Due.be("the lowest int is held", x.told(0, 5), 0);
        Tape.tell(x, "toll (0-4096)*4096*128-1");
        Due.be("the highest int is held", x.told(1, 5), 1998);
    }

    /** "(without a TEXT: WEIGHT)"; "HEARSE: as COACH, less 10 (0 at least). FLOCK: half (cut)." */
    private static void paysWithoutText() {
        int[][] pays = {{1, 1, 2, 0, 0, 3, 0}, {2, 2, 4, 1, 0, 4, 0}, {4, 4, 8, 2, 0, 5, 0}, {5, 5, 10, 2, 0, 5, 0},
            {6, 6, 12, 3, 2, 6, 0}, {98, 98, 196, 49, 186, 52, 0}, {99, 99, 198, 49, 188, 52, 0}};
        for (int[] row : pays) {
            for (int kind = 0; kind < 6; kind++) {
                RopeFerry x = new RopeFerry();
                x.load(kind, row[0], 0);
                Due.be("KIND " + kind + " of WEIGHT " + row[0], x.told(0, 5), row[kind + 1]);
                x.rule(2, 20);
                x.rule(4, 9999);
                Due.be("and in a STEP", x.steps(1), row[kind + 1]);
            }
        }
    }

    /** "COACH: as CART, and 5. HEARSE: 0. FLOCK: half (cut) of as CART. HERD: as FLOCK. DOCTOR: 9999." */
    private static void urges() {
        int[][] urges = {{0, 0, 5, 0, 0, 0, 9999}, {1, 1, 6, 0, 0, 0, 9999}, {2, 2, 7, 1, 0, 1, 9999},
            {3, 3, 8, 1, 0, 1, 9999}, {9998, 9998, 10003, 4999, 0, 4999, 9999}, {9999, 9999, 10004, 4999, 0, 4999, 9999}};
        for (int[] row : urges) {
            for (int kind = 0; kind < 6; kind++) {
                RopeFerry x = new RopeFerry();
                x.load(kind, 50, 0);
                x.set(0, 3, row[0]);
                Due.be("KIND " + kind + " that WAITS " + row[0], x.told(0, 7), row[kind + 1]);
            }
        }
    }

    /** "COACH: as CART, and 8. HEARSE: twice as COACH. FLOCK: 99 less WEIGHT. HERD: as FLOCK, less 7. DOCTOR: 5." */
    private static void worth() {
        int[][] worth = {{1, 1, 9, 98, 18, 91, 5}, {92, 92, 100, 7, 200, 0, 5}, {93, 93, 101, 6, 202, -1, 5},
            {99, 99, 107, 0, 214, -7, 5}};
        for (int[] row : worth) {
            for (int kind = 0; kind < 6; kind++) {
                RopeFerry x = new RopeFerry();
                x.load(kind, row[0], 0);
                x.lay(0, 1, 0);
                Due.be("KIND " + kind + " of WEIGHT " + row[0], x.told(0, 8), row[kind + 1]);
                Due.be("and out of a SLOT", x.ask(0, 0), row[kind + 1]);
            }
        }
    }

    /** "What pull gives, held within 0 .. 9999"; "so much WEIGHT (0 .. 999) aboard". */
    private static void pullIsHeld() {
        RopeFerry x = new RopeFerry();
        for (int wrong : new int[] {-1, 1000, LOW, HIGH}) {
            Due.be("no such WEIGHT aboard", x.pull(wrong), BAD);
        }
        Tape.tell(x, "pull w-1");
        Due.be("-1", x.pull(0), 0);
        Due.be("0", x.pull(1), 0);
        Due.be("1", x.pull(2), 1);
        Tape.tell(x, "pull w+9000");
        Due.be("9998", x.pull(998), 9998);
        Due.be("9999", x.pull(999), 9999);
        Tape.tell(x, "pull w+9001");
        Due.be("9999", x.pull(998), 9999);
        Due.be("10000", x.pull(999), 9999);
        Tape.tell(x, "pull w*9999");
        Due.be("much more", x.pull(999), 9999);
        Tape.tell(x, "pull (0-4096)*4096*128");
        Due.be("the lowest int", x.pull(0), 0);
        Tape.tell(x, "pull (0-4096)*4096*128-1");
        Due.be("the highest int", x.pull(0), 9999);
    }

    /** "(without a TEXT: STREAM times (WEIGHT and 20) / 10)", cut, and not held. */
    private static void pullIsCut() {
        int[][] pulls = {{0, 0, 0}, {0, 999, 0}, {1, 0, 2}, {1, 9, 2}, {1, 10, 3}, {3, 0, 6}, {3, 3, 6}, {3, 4, 7},
            {99, 0, 198}, {98, 999, 9986}, {99, 990, 9999}, {99, 991, 10008}, {99, 999, 10088}};
        RopeFerry x = new RopeFerry();
        for (int[] row : pulls) {
            x.rule(3, row[0]);
            Due.be("at STREAM " + row[0] + " with " + row[1], x.pull(row[1]), row[2]);
        }
    }

    /** "EFFECT: 30, less by how much SLANT and 30 differ, 0 at least." */
    private static void effect() {
        RopeFerry x = new RopeFerry();
        for (int slant = 0; slant <= 90; slant++) {
            x.rule(1, slant);
            Due.be("at SLANT " + slant, x.boat(6), slant <= 30 ? slant : slant <= 60 ? 60 - slant : 0);
        }
    }

    /** "60, if STREAM or EFFECT is 0; else 4 and 300 / (1 and STREAM times EFFECT / 30), 60 at most." */
    private static void minutes() {
        int[][] minutes = {{0, 30, 60}, {99, 0, 60}, {99, 60, 60}, {99, 61, 60}, {99, 90, 60}, {0, 0, 60}, {1, 1, 60},
            {1, 30, 60}, {4, 30, 60}, {5, 30, 54}, {5, 29, 60}, {6, 29, 54}, {99, 1, 60}, {98, 30, 7}, {99, 30, 7},
            {59, 30, 9}, {58, 30, 9}, {60, 30, 8}, {89, 1, 60}, {90, 1, 60}, {75, 2, 54}, {74, 2, 60}, {75, 58, 54}};
        RopeFerry x = new RopeFerry();
        for (int[] row : minutes) {
            x.rule(3, row[0]);
            x.rule(1, row[1]);
            Due.be("at STREAM " + row[0] + ", SLANT " + row[1], x.boat(7), row[2]);
            Due.be("and that is how long a crossing is", crossing(row[0], row[1]), row[2]);
        }
        x.rule(1, 30);
        for (int stream = 0; stream <= 99; stream++) {
            x.rule(3, stream);
            Due.be("at STREAM " + stream + ", SLANT 30", x.boat(7), stream < 5 ? 60 : 4 + 300 / (1 + stream));
        }
    }

    private static int crossing(int stream, int slant) {
        RopeFerry x = Ferries.withCarts(1);
        x.rule(3, stream);
        x.rule(1, slant);
        x.rule(4, 9999);
        x.steps(1);
        return x.book(0);
    }

    /** "It goes aboard, if what it TAKES fits into what is left of ROOM": as much as all of ROOM does. */
    private static void roomOfEachKind() {
        int[] takes = {2, 3, 1, 3, 4, 2};
        for (int kind = 0; kind < 6; kind++) {
            RopeFerry x = new RopeFerry();
            x.load(kind, 20, 0);
            Due.be("KIND " + kind + " TAKES", x.told(0, 6), takes[kind]);
            x.rule(2, takes[kind]);
            int best = kind == 5 ? 0 : 1;
            Due.be("KIND " + kind + " fits", x.loading(), 1);
            Due.be("KIND " + kind + " fits, and pays if it is no DOCTOR", x.best(0), best);
            boolean less = takes[kind] > 1;
            Due.be("ROOM of one less", x.rule(2, takes[kind] - 1), less ? takes[kind] : BAD);
            Due.be("KIND " + kind + " does not fit", x.loading(), less ? 0 : 1);
            Due.be("KIND " + kind + " does not fit", x.best(0), less ? 0 : best);
        }
    }

    /** The same of what others left, down to none. */
    private static void whatIsLeftOfRoom() {
        for (int carts = 1; carts <= 10; carts++) {
            for (int room = 1; room <= 20; room++) {
                RopeFerry x = Ferries.withCarts(carts);
                x.rule(2, room);
                x.rule(4, 9999);
                Due.be(carts + " CARTS of 2, ROOM " + room, x.loading(), (1 << Math.min(carts, room / 2)) - 1);
            }
        }
        RopeFerry x = new RopeFerry();
        x.load(1, 1, 0);
        x.load(4, 1, 0);
        x.load(2, 1, 0);
        x.set(1, 3, 2);
        x.rule(2, 4);
        Due.be("the HERD is passed over, the FLOCK fits into the 1 left", x.loading(), 0b101);
        x.rule(2, 3);
        Due.be("nothing is left", x.loading(), 0b001);
        x.rule(2, 8);
        Due.be("all of it is left to none", x.loading(), 0b111);
        x.rule(2, 7);
        Due.be("the FLOCK finds 0 left", x.loading(), 0b011);
    }

    /** "PULL with its WEIGHT and all aboard is not above MARK": at MARK it is not. */
    private static void markOfLoading() {
        RopeFerry x = Ferries.withCarts(3);
        int[][] marks = {{119, 0}, {120, 1}, {121, 1}, {159, 1}, {160, 3}, {161, 3}, {199, 3}, {200, 7}, {201, 7}};
        for (int[] row : marks) {
            x.rule(4, row[0]);
            Due.be("MARK " + row[0], x.loading(), row[1]);
        }
        RopeFerry y = new RopeFerry();
        y.load(0, 99, 0);
        y.load(0, 11, 0);
        y.load(0, 10, 0);
        y.rule(4, 120);
        Due.be("two too heavy ones are passed over", y.loading(), 4);
        Tape.tell(y, "pull 130-w");
        Due.be("PULL with nothing is above MARK, with 99 and then 110 it is not", y.loading(), 7);
        y.rule(4, 119);
        Due.be("11 and 10 come into question once, the 99 is aboard with them", y.loading(), 7);
        y.set(0, 1, 10);
        Due.be("with 10 it is above MARK, with 11 it is not, with 21 it is not", y.loading(), 6);
    }

    /** "The one that URGES most (of several the least), again and again", each that "did not come into question yet". */
    private static void whoUrgesMost() {
        RopeFerry x = Ferries.withCarts(3);
        x.rule(2, 2);
        Due.be("of several the least", x.loading(), 1);
        x.set(2, 3, 1);
        Due.be("one more urges most", x.loading(), 4);
        x.set(1, 3, 1);
        Due.be("of several the least", x.loading(), 2);
        x.turns(0, 1);
        x.rule(2, 3);
        Due.be("5 more of a COACH", x.loading(), 1);
        x.set(1, 3, 5);
        Due.be("5 of a CART: of several the least", x.loading(), 1);
        x.set(1, 3, 6);
        Due.be("6 of a CART", x.loading(), 2);
        x.turns(2, 5);
        x.set(1, 3, 9999);
        Due.be("9999 of a CART and of a DOCTOR: of several the least", x.loading(), 2);
        x.set(1, 3, 9998);
        Due.be("a DOCTOR urges most", x.loading(), 4);
        x.set(0, 3, 9995);
        Due.be("10000 of a COACH", x.loading(), 1);
        x.set(0, 3, 9994);
        Due.be("9999 of a COACH: of several the least", x.loading(), 1);
        x.set(0, 3, 9993);
        Due.be("9998 of a COACH", x.loading(), 4);
    }

    private static void allTenAboard() {
        RopeFerry x = Ferries.withCarts(10);
        for (int load = 0; load < 10; load++) {
            x.turns(load, 2);
        }
        x.rule(4, 9999);
        x.rule(2, 10);
        Due.be("ten FLOCKS in ROOM 10", x.loading(), 1023);
        Due.be("ten FLOCKS in ROOM 10", x.best(0), 1023);
        x.rule(2, 9);
        Due.be("nine FLOCKS in ROOM 9", x.loading(), 511);
        Due.be("nine FLOCKS in ROOM 9", x.best(0), 511);
        x.rule(2, 20);
        Due.be("all go over", x.steps(1), 50);
        Due.be("and each of them is", x.book(3), 10);
    }

    /** "KIND the rest of a draw by 6, WEIGHT 1 and that of one more by 60, BANK that of one more by 2." */
    private static void dealtLoads() {
        boolean[] kinds = new boolean[6];
        boolean[] weights = new boolean[61];
        for (int seed = 1; seed <= 400; seed++) {
            RopeFerry x = new RopeFerry();
            x.seed(seed * 7919);
            x.deal(1);
            int second = Ferries.next(seed * 7919);
            int third = Ferries.next(second);
            kinds[x.told(0, 0)] = true;
            weights[x.told(0, 1)] = true;
            Due.be("KIND", x.told(0, 0), Ferries.drawn(seed * 7919) % 6);
            Due.be("WEIGHT", x.told(0, 1), 1 + Ferries.drawn(second) % 60);
            Due.be("BANK", x.told(0, 2), Ferries.drawn(third) % 2);
            Due.be("three draws", x.count(7), Ferries.next(third));
        }
        Due.holds("each KIND came, the lightest came, the heaviest came",
            kinds[0] && kinds[1] && kinds[2] && kinds[3] && kinds[4] && kinds[5] && weights[1] && weights[60]);
    }

    /** "n (1 .. 10) of them, as many as there is room for (no draws for others): how many came." */
    private static void dealAsManyAsThereIsRoomFor() {
        for (int there = 0; there <= 10; there++) {
            for (int n : new int[] {1, 2, 9, 10}) {
                RopeFerry x = Ferries.withCarts(there);
                int came = Math.min(n, 10 - there);
                Due.be(n + " to " + there, x.deal(n), came);
                Due.be("as many are there", x.count(0), there + came);
                int z = 1;
                for (int draws = 0; draws < 3 * came; draws++) {
                    z = Ferries.next(z);
                }
                Due.be("no draws for others", x.count(7), z);
            }
        }
        for (int wrong : new int[] {0, 11, -1, LOW, HIGH}) {
            RopeFerry x = new RopeFerry();
            Due.be("so many are never drawn", x.deal(wrong), BAD);
            Due.be("none came", x.count(0), 0);
            Due.be("none was drawn", x.count(7), 1);
        }
    }

    /** "z becomes z * 1103515245 + 12345 (an int); it gives z >>> 8": never below 0. */
    private static void seeds() {
        for (int z : new int[] {0, 1, -1, LOW, HIGH, LOW + 1, 987654321}) {
            RopeFerry x = new RopeFerry();
            x.seed(z);
            x.rule(3, 50);
            x.steps(1);
            Due.be("z wraps", x.count(7), z * 1103515245 + 12345);
            Due.be("what it gives is not below 0", x.boat(3), 50 + ((z * 1103515245 + 12345) >>> 8) % 7 - 3);
        }
    }
}
