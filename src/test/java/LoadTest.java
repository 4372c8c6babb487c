/** Promises 1 to 12: loads, the boat. */
public final class LoadTest {
    private static final int BAD = RopeFerry.BAD;
    private static final int FULL = RopeFerry.FULL;
    private static final int KIND = RopeFerry.KIND;
    private static final int LOW = Integer.MIN_VALUE;
    private static final int HIGH = Integer.MAX_VALUE;

    public static void main(String[] args) {
        aNewObject();
        load();
        toldOfEachKind();
        toldByText();
        as();
        turns();
        set();
        boat();
        rule();
        pull();
        loading();
        deal();
        seed();
        Due.end();
    }

    static int[] counts(RopeFerry x) {
        int[] row = new int[8];
        for (int i = 0; i < 8; i++) {
            row[i] = x.count(i);
        }
        return row;
    }

    static int[] boats(RopeFerry x) {
        int[] row = new int[8];
        for (int i = 0; i < 8; i++) {
            row[i] = x.boat(i);
        }
        return row;
    }

    static int[] tolds(RopeFerry x, int load) {
        int[] row = new int[9];
        for (int i = 0; i < 9; i++) {
            row[i] = x.told(load, i);
        }
        return row;
    }

    static int[] books(RopeFerry x) {
        return new int[] {x.book(0), x.book(1), x.book(2), x.book(3)};
    }

    private static void aNewObject() {
        RopeFerry x = new RopeFerry();
        Due.row("1 counts", counts(x), 0, 0, 0, 0, 0, 0, 0, 1);
        Due.row("1 boat", boats(x), 0, 30, 6, 40, 300, 1, 30, 11);
        Due.row("1 book", books(x), 0, 0, 0, 0);
        for (int key = 0; key < 3; key++) {
            Due.be("1 why", x.why(key), RopeFerry.NONE);
        }
        for (int sheet = 0; sheet < 4; sheet++) {
            Due.be("1 sheets are missing", x.reads(sheet), RopeFerry.NOTHING);
        }
        for (int slot = 0; slot < 5; slot++) {
            Due.be("1 slots hold nothing", x.lay(slot, 0, 0), 0);
        }
        Due.be("1 no image", x.back(), RopeFerry.NO);
        Due.be("1 no image", x.check(1), RopeFerry.NO);
        Due.be("1 no loads", x.told(0, 0), BAD);
    }

    private static void load() {
        RopeFerry x = new RopeFerry();
        int[][] bad = {{-1, 1, 0}, {6, 1, 0}, {LOW, 1, 0}, {HIGH, 1, 0}, {0, 0, 0}, {0, 100, 0}, {0, LOW, 0},
            {0, HIGH, 0}, {0, 1, -1}, {0, 1, 2}, {0, 1, LOW}, {0, 1, HIGH}};
        for (int[] one : bad) {
            Due.be("2 BAD", x.load(one[0], one[1], one[2]), BAD);
        }
        Due.be("2 BAD changes nothing", x.count(0), 0);
        Due.be("2 the lightest", x.load(5, 1, 1), 0);
        Due.be("2 the heaviest", x.load(0, 99, 0), 1);
        Due.row("2 told", tolds(x, 0), 5, 1, 1, 0, 0, 0, 2, 9999, 5);
        Due.row("2 told", tolds(x, 1), 0, 99, 0, 0, 0, 99, 2, 0, 99);
        for (int i = 2; i < 10; i++) {
            Due.be("2 its number", x.load(i % 6, i, i % 2), i);
        }
        Due.be("2 FULL", x.load(0, 1, 0), FULL);
        Due.be("2 BAD stands ahead of FULL", x.load(6, 1, 0), BAD);
        Due.be("2 ten at most", x.count(0), 10);
    }

    private static void toldOfEachKind() {
        RopeFerry x = new RopeFerry();
        for (int kind = 0; kind < 6; kind++) {
            x.load(kind, 20, kind % 2);
            x.set(kind, 3, 11);
        }
        Due.row("3 CART", tolds(x, 0), 0, 20, 0, 11, 0, 20, 2, 11, 20);
        Due.row("3 COACH", tolds(x, 1), 1, 20, 1, 11, 0, 40, 3, 16, 28);
        Due.row("3 FLOCK", tolds(x, 2), 2, 20, 0, 11, 0, 10, 1, 5, 79);
        Due.row("3 HEARSE", tolds(x, 3), 3, 20, 1, 11, 0, 30, 3, 0, 56);
        Due.row("3 HERD", tolds(x, 4), 4, 20, 0, 11, 0, 13, 4, 5, 72);
        Due.row("3 DOCTOR", tolds(x, 5), 5, 20, 1, 11, 0, 0, 2, 9999, 5);
        x.set(2, 1, 21);
        Due.be("3 half is cut", x.told(2, 5), 10);
        x.set(3, 1, 4);
        Due.be("3 a HEARSE pays 0 at least", x.told(3, 5), 0);
        x.set(3, 1, 6);
        Due.be("3 a HEARSE pays 10 less", x.told(3, 5), 2);
        x.set(2, 1, 99);
        Due.be("3 WORTH of a FLOCK", x.told(2, 8), 0);
        x.set(4, 1, 99);
        Due.be("3 WORTH of a HERD below 0", x.told(4, 8), -7);
        for (int load : new int[] {-1, 6, LOW, HIGH}) {
            Due.be("3 BAD load", x.told(load, 0), BAD);
        }
        for (int what : new int[] {-1, 9, LOW, HIGH}) {
            Due.be("3 BAD what", x.told(0, what), BAD);
        }
    }

    private static void toldByText() {
        RopeFerry x = new RopeFerry();
        for (int kind = 0; kind < 6; kind++) {
            x.load(kind, 20, 0);
            x.set(kind, 3, 7);
        }
        Tape.tell(x, "toll w*100-s*10+v");
        Due.be("3 toll above 999", x.told(0, 5), 999);
        Due.be("3 twice 999", x.told(1, 5), 1998);
        Due.be("3 half of 999", x.told(2, 5), 499);
        Due.be("3 twice 999, less 10", x.told(3, 5), 1988);
        Due.be("3 half of 999, and 3", x.told(4, 5), 502);
        Due.be("3 a DOCTOR pays 0", x.told(5, 5), 0);
        Tape.tell(x, "toll w*10-s*2+v");
        Due.be("3 toll by weight, stream, waits", x.told(0, 5), 127);
        Tape.tell(x, "toll 0-w");
        int[] least = {0, 0, 0, 0, 3, 0};
        for (int kind = 0; kind < 6; kind++) {
            Due.be("3 toll below 0", x.told(kind, 5), least[kind]);
        }
    }

    private static void as() {
        String[] isOf = {"100000", "110000", "101000", "110100", "101010", "100001"};
        RopeFerry x = new RopeFerry();
        for (int kind = 0; kind < 6; kind++) {
            x.load(kind, 10 + kind, 0);
        }
        for (int kind = 0; kind < 6; kind++) {
            for (int wanted = 0; wanted < 6; wanted++) {
                boolean is = isOf[kind].charAt(wanted) == '1';
                Due.be("4 " + kind + " as " + wanted, x.as(kind, wanted), is ? 10 + kind : KIND);
            }
        }
        for (int wrong : new int[] {-1, 6, LOW, HIGH}) {
            Due.be("4 BAD load", x.as(wrong, 0), BAD);
            Due.be("4 BAD kind", x.as(0, wrong), BAD);
        }
    }

    private static void turns() {
        RopeFerry x = new RopeFerry();
        x.load(0, 20, 1);
        x.set(0, 3, 8);
        Due.be("5 what it was", x.turns(0, 3), 0);
        Due.row("5 all else stays", tolds(x, 0), 3, 20, 1, 8, 0, 30, 3, 0, 56);
        Due.be("5 the same again", x.turns(0, 3), 3);
        Due.be("5 to the first", x.turns(0, 0), 3);
        Due.be("5 to the last", x.turns(0, 5), 0);
        for (int wrong : new int[] {-1, 6, LOW, HIGH}) {
            Due.be("5 BAD load", x.turns(wrong, 0), BAD);
            Due.be("5 BAD kind", x.turns(0, wrong), BAD);
        }
        Due.be("5 load 1 is none", x.turns(1, 0), BAD);
        Due.be("5 BAD changes nothing", x.told(0, 0), 5);
    }

    private static void set() {
        RopeFerry x = new RopeFerry();
        x.load(0, 20, 0);
        x.load(0, 30, 0);
        Due.be("6 weight", x.set(1, 1, 1), 30);
        Due.be("6 weight", x.set(1, 1, 99), 1);
        Due.be("6 bank", x.set(1, 2, 1), 0);
        Due.be("6 bank", x.set(1, 2, 0), 1);
        Due.be("6 bank", x.set(1, 2, 1), 0);
        Due.be("6 waits", x.set(1, 3, 9999), 0);
        Due.be("6 waits", x.set(1, 3, 0), 9999);
        Due.be("6 waits", x.set(1, 3, 5), 0);
        int[][] bad = {{-1, 1, 1}, {2, 1, 1}, {LOW, 1, 1}, {HIGH, 1, 1}, {0, 0, 1}, {0, 4, 1}, {0, LOW, 1}, {0, HIGH, 1},
            {0, 1, 0}, {0, 1, 100}, {0, 2, -1}, {0, 2, 2}, {0, 3, -1}, {0, 3, 10000}, {0, 3, LOW}, {0, 3, HIGH}};
        for (int[] one : bad) {
            Due.be("6 BAD", x.set(one[0], one[1], one[2]), BAD);
        }
        Due.row("6 what became", tolds(x, 1), 0, 99, 1, 5, 0, 99, 2, 5, 99);
        Due.row("6 BAD changes nothing", tolds(x, 0), 0, 20, 0, 0, 0, 20, 2, 0, 20);
    }

    private static void boat() {
        RopeFerry x = new RopeFerry();
        int[][] minutes = {{40, 30, 30, 11}, {40, 0, 0, 60}, {40, 60, 0, 60}, {40, 90, 0, 60}, {0, 30, 30, 60},
            {40, 1, 1, 60}, {99, 30, 30, 7}, {40, 45, 15, 18}, {40, 15, 15, 18}, {1, 30, 30, 60}, {5, 30, 30, 54},
            {4, 30, 30, 60}, {40, 59, 1, 60}, {59, 31, 29, 9}, {30, 5, 5, 54}};
        for (int[] one : minutes) {
            x.rule(3, one[0]);
            x.rule(1, one[1]);
            Due.be("7 EFFECT at slant " + one[1], x.boat(6), one[2]);
            Due.be("7 MINUTES at stream " + one[0] + ", slant " + one[1], x.boat(7), one[3]);
        }
        for (int what : new int[] {-1, 8, LOW, HIGH}) {
            Due.be("7 BAD", x.boat(what), BAD);
        }
    }

    private static void rule() {
        int[] first = {0, 30, 6, 40, 300, 1};
        int[] lowest = {0, 0, 1, 0, 1, 0};
        int[] highest = {1, 90, 20, 99, 9999, 10};
        RopeFerry x = new RopeFerry();
        for (int what = 0; what < 6; what++) {
            Due.be("8 what it was first", x.rule(what, highest[what]), first[what]);
            Due.be("8 the highest", x.rule(what, lowest[what]), highest[what]);
            Due.be("8 the lowest", x.boat(what), lowest[what]);
            for (int wrong : new int[] {lowest[what] - 1, highest[what] + 1, LOW, HIGH}) {
                Due.be("8 BAD v of " + what, x.rule(what, wrong), BAD);
            }
            Due.be("8 BAD changes nothing", x.boat(what), lowest[what]);
        }
        for (int what : new int[] {-1, 6, LOW, HIGH}) {
            Due.be("8 BAD what", x.rule(what, 1), BAD);
        }
    }

    private static void pull() {
        RopeFerry x = new RopeFerry();
        Due.be("9 with nothing", x.pull(0), 80);
        Due.be("9 with 55", x.pull(55), 300);
        x.rule(3, 39);
        Due.be("9 cut", x.pull(1), 81);
        Due.be("9 the most", x.pull(999), 3974);
        x.rule(3, 99);
        Due.be("9 all loads at their heaviest", x.pull(990), 9999);
        for (int weight = 991; weight <= 999; weight++) {
            Due.be("9 nothing holds it without a TEXT", x.pull(weight), 99 * (weight + 20) / 10);
        }
        Due.be("9 the very most", x.pull(999), 10088);
        x.rule(3, 98);
        Due.be("9 below 9999 by itself", x.pull(999), 9986);
        for (int wrong : new int[] {-1, 1000, LOW, HIGH}) {
            Due.be("9 BAD", x.pull(wrong), BAD);
        }
        x.rule(3, 5);
        x.rule(1, 70);
        Tape.tell(x, "pull s*100+w*10+a");
        Due.be("9 by a text", x.pull(3), 600);
        Due.be("9 held at 9999", x.pull(999), 9999);
        Tape.tell(x, "pull w-s");
        Due.be("9 held at 0", x.pull(4), 0);
        Due.be("9 above 0", x.pull(6), 1);
        pullHeldByATextAlone();
    }

    private static void pullHeldByATextAlone() {
        RopeFerry x = new RopeFerry();
        x.rule(3, 99);
        x.rule(4, 9999);
        x.keep();
        Tape.tell(x, "pull s*(w+20)/10");
        Due.be("9 the same by a TEXT", x.pull(990), 9999);
        Due.be("9 the same by a TEXT, held", x.pull(991), 9999);
        Due.be("9 the same by a TEXT, held", x.pull(999), 9999);
        x.back();
        Due.be("9 without that TEXT again", x.pull(991), 10008);
        Due.be("9 without that TEXT again", x.pull(999), 10088);
        Tape.tell(x, "toll 1");
        Tape.tell(x, "fine 1");
        Due.be("9 TEXTS of other KEYS hold nothing", x.pull(999), 10088);
    }

    private static void loading() {
        RopeFerry x = new RopeFerry();
        Due.be("10 nobody", x.loading(), 0);
        x.load(0, 30, 0);
        x.load(0, 26, 0);
        x.load(0, 25, 0);
        x.load(0, 1, 1);
        x.set(0, 3, 10);
        x.set(1, 3, 9);
        x.set(3, 3, 99);
        Due.be("10 at MARK is not above it, beyond is", x.loading(), 5);
        x.set(1, 3, 0);
        Due.be("10 of several the least comes first", x.loading(), 5);
        x.set(0, 1, 29);
        Due.be("10 of several the least", x.loading(), 3);
        x.set(2, 3, 1);
        Due.be("10 who urges more", x.loading(), 5);
        x.rule(0, 1);
        Due.be("10 only those on the BANK of SIDE", x.loading(), 8);
        Due.row("10 only thought", counts(x), 4, 0, 3, 1, 0, 0, 0, 1);
        loadingByRoom();
        loadingByUrge();
    }

    private static void loadingByRoom() {
        RopeFerry x = new RopeFerry();
        x.load(4, 1, 0);
        x.load(1, 1, 0);
        x.load(2, 1, 0);
        x.load(2, 1, 0);
        x.set(0, 3, 100);
        Due.be("10 a HERD of 4, two FLOCKS of 1", x.loading(), 13);
        x.rule(2, 7);
        Due.be("10 a HERD of 4, a COACH of 3", x.loading(), 3);
        x.rule(2, 3);
        Due.be("10 a HERD does not fit, a COACH does", x.loading(), 2);
        x.rule(2, 1);
        Due.be("10 only a FLOCK fits", x.loading(), 4);
        x.rule(2, 20);
        Due.be("10 all fit", x.loading(), 15);
        x.rule(4, 79);
        Due.be("10 none, where PULL with nothing is above MARK", x.loading(), 0);
    }

    private static void loadingByUrge() {
        RopeFerry x = new RopeFerry();
        for (int kind = 0; kind < 6; kind++) {
            x.load(kind, 50, 0);
            x.set(kind, 3, 20);
        }
        int[] order = {5, 1, 0, 2, 4, 3};
        int gone = 0;
        for (int next : order) {
            Due.be("10 one by one, by URGES", x.loading(), 1 << next);
            x.set(next, 2, 1);
            gone |= 1 << next;
        }
        Due.be("10 all came into question", gone, 63);
        Due.be("10 nobody is left", x.loading(), 0);
        RopeFerry y = new RopeFerry();
        y.load(0, 50, 0);
        y.load(5, 50, 0);
        y.steps(1);
        y.set(0, 3, 9999);
        y.set(0, 2, 1);
        Due.be("10 WAITS of 9999 urge as a DOCTOR", y.loading(), 1);
    }

    private static void deal() {
        RopeFerry x = new RopeFerry();
        for (int wrong : new int[] {0, 11, -1, LOW, HIGH}) {
            Due.be("11 BAD", x.deal(wrong), BAD);
        }
        Due.be("11 three", x.deal(3), 3);
        Due.be("11 as many as there is room for", x.deal(10), 7);
        Due.be("11 no room", x.deal(1), 0);
        int z = 1;
        for (int load = 0; load < 10; load++) {
            int[] due = new int[3];
            for (int i = 0; i < 3; i++) {
                z = z * 1103515245 + 12345;
                due[i] = z >>> 8;
            }
            Due.be("11 KIND", x.told(load, 0), due[0] % 6);
            Due.be("11 WEIGHT", x.told(load, 1), 1 + due[1] % 60);
            Due.be("11 BANK", x.told(load, 2), due[2] % 2);
            Due.be("11 WAITS", x.told(load, 3), 0);
            Due.be("11 OVER", x.told(load, 4), 0);
        }
        Due.be("11 thirty draws, no draws for others", x.count(7), z);
    }

    private static void seed() {
        RopeFerry x = new RopeFerry();
        Due.be("12 at first", x.seed(LOW), 1);
        Due.be("12 what it was", x.seed(-5), LOW);
        Due.be("12 z", x.count(7), -5);
        x.deal(1);
        Due.be("12 a draw of a z below 0", x.told(0, 0), ((-5 * 1103515245 + 12345) >>> 8) % 6);
    }
}
