import com.sun.management.ThreadMXBean;
import java.lang.management.ManagementFactory;
import java.util.Random;

/** Calls with any arguments in any state: none throws, all end, and what they make has room. */
public final class RoomTest {
    private static final int[] EDGES = {Integer.MIN_VALUE, Integer.MIN_VALUE + 1, Integer.MAX_VALUE, -2, -1, 0, 1, 2, 3,
        4, 5, 6, 9, 10, 11, 23, 24, 25, 60, 61, 96, 97, 99, 100, 101, 999, 1000, 9999, 10000, RopeFerry.NONE, 0x20202020,
        0x66696e65, 0x28282828, 0x21212121};

    /** Some 600,000 objects of 16 bytes, some 7.3 million fields and elements of 8 at the most. */
    private static final long ROOM = 600_000L * 16 + 7_300_000L * 8;

    private static final String LONGEST = "pull (((((((s*(w+20)/10)))))))+!!!!!!!!w*0+a-a+w-w+s-s+w*1/1-w+0*0*0*0*0*0"
        .concat("|0&1<2|0&3>4|0");

    public static void main(String[] args) {
        anyCalls();
        whatACallMakes();
        Due.end();
    }

    private static void anyCalls() {
        int answers = 0;
        for (int seed = 1; seed <= 300; seed++) {
            Random random = new Random(seed);
            RopeFerry x = new RopeFerry();
            for (int i = 0; i < 512; i++) {
                call(x, random.nextInt(41), arg(random), arg(random), arg(random), arg(random), arg(random));
                answers++;
            }
        }
        Due.be("all calls answer", answers, 300 * 512);
    }

    private static int arg(Random random) {
        int sort = random.nextInt(3);
        return sort == 0 ? EDGES[random.nextInt(EDGES.length)] : sort == 1 ? random.nextInt(12) - 1 : random.nextInt();
    }

    private static int call(RopeFerry x, int which, int a, int b, int c, int d, int e) {
        switch (which) {
            case 0: return x.load(a, b, c);
            case 1: return x.told(a, b);
            case 2: return x.as(a, b);
            case 3: return x.turns(a, b);
            case 4: return x.set(a, b, c);
            case 5: return x.boat(a);
            case 6: return x.rule(a, b);
            case 7: return x.pull(a);
            case 8: return x.loading();
            case 9: return x.deal(a);
            case 10: return x.seed(a);
            case 11: return x.steps(a);
            case 12: return x.book(a);
            case 13: return x.high();
            case 14: return x.best(a);
            case 15: return x.behind(a, b);
            case 16: return x.slant(a, b);
            case 17: return x.patience(a, b);
            case 18: return x.left(a, b);
            case 19: return x.allOver();
            case 20: return x.slanted(a, b);
            case 21: return x.fine();
            case 22: return x.feed(a, b, c);
            case 23: return x.trim(a);
            case 24: return x.text();
            case 25: return x.textTold(a, b);
            case 26: return x.why(a);
            case 27: return x.sheet(a, b, c);
            case 28: return x.mark(a, b, c);
            case 29: return x.pour(a);
            case 30: return x.reads(a);
            case 31: return x.copy(a, b, c, d, e);
            case 32: return x.lay(a, b, c);
            case 33: return x.ask(a, b);
            case 34: return x.item(a, b);
            case 35: return x.rest(a, b);
            case 36: return x.tell(a);
            case 37: return x.check(a);
            case 38: return x.keep();
            case 39: return x.back();
            default: return x.count(a);
        }
    }

    /** All that a run of a ferry's dearest calls makes is to have room. */
    private static void whatACallMakes() {
        RopeFerry x = new RopeFerry();
        x.deal(10);
        x.rule(2, 20);
        x.rule(4, 9999);
        Due.be("the longest text", Tape.tell(x, LONGEST), 0);
        x.sheet(0, 1, 24);
        x.keep();
        ThreadMXBean threads = (ThreadMXBean) ManagementFactory.getThreadMXBean();
        long id = Thread.currentThread().getId();
        dearest(x);
        threads.getThreadAllocatedBytes(id);
        long ahead = threads.getThreadAllocatedBytes(id);
        dearest(x);
        long made = threads.getThreadAllocatedBytes(id) - ahead;
        Due.holds("what the dearest calls make has room, bytes made: " + made, made < ROOM);
    }

    private static void dearest(RopeFerry x) {
        for (int i = 0; i < 12; i++) {
            x.slant(60, 0);
            x.patience(60, 0);
            x.left(60, 0);
            x.allOver();
            x.slanted(0, 0);
            x.best(1);
            x.high();
            x.behind(100, 0);
            x.steps(100);
            x.check(30);
            x.keep();
            x.back();
            x.lay(0, 1, 0);
            x.lay(1, 2, 0);
            x.sheet(1, 1, 24);
            x.copy(0, 0, 1, 0, 24);
            x.text();
            x.pour(1);
        }
    }
}
