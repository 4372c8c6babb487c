import java.lang.reflect.Method;
import java.util.LinkedHashSet;
import java.util.Set;

/**
 * Every number that a call takes, at both its bounds and just outside of them: inside it is no BAD, outside it is BAD
 * and nothing changes, whatever the other numbers are.
 */
public final class BoundsTest {
    private static final int BAD = RopeFerry.BAD;
    private static final int LOW = Integer.MIN_VALUE;
    private static final int HIGH = Integer.MAX_VALUE;

    /** A call on the rich ferry (3 LOADS, 3 TEXTS, 8 bytes), then of each of its numbers the least and the most. */
    private static final Object[][] BOUNDS = {
        {"load", in(0, 5), in(1, 99), in(0, 1)},
        {"told", in(0, 2), in(0, 8)},
        {"as", in(0, 2), in(0, 5)},
        {"turns", in(0, 2), in(0, 5)},
        {"set", in(0, 2), in(1, 3), is(1)},
        {"set", in(0, 2), is(1), in(1, 99)},
        {"set", in(0, 2), is(2), in(0, 1)},
        {"set", in(0, 2), is(3), in(0, 9999)},
        {"boat", in(0, 7)},
        {"rule", in(0, 5), is(1)},
        {"rule", is(0), in(0, 1)},
        {"rule", is(1), in(0, 90)},
        {"rule", is(2), in(1, 20)},
        {"rule", is(3), in(0, 99)},
        {"rule", is(4), in(1, 9999)},
        {"rule", is(5), in(0, 10)},
        {"pull", in(0, 999)},
        {"deal", in(1, 10)},
        {"steps", in(1, 100)},
        {"book", in(0, 3)},
        {"best", in(0, 1)},
        {"behind", in(0, 100), in(0, 4)},
        {"slant", in(1, 60), in(0, 1)},
        {"patience", in(1, 60), in(0, 1)},
        {"left", in(1, 60), in(0, 1)},
        {"slanted", in(0, 3), in(0, 1)},
        {"trim", in(0, 8)},
        {"textTold", in(0, 2), in(0, 1)},
        {"why", in(0, 2)},
        {"sheet", in(0, 3), in(-1, 1), is(0)},
        {"sheet", in(0, 3), is(-1), is(25)},
        {"sheet", in(0, 3), is(-1), is(-1)},
        {"mark", in(0, 3), is(0), is(5)},
        {"mark", is(1), is(2), in(-99999, 99999)},
        {"pour", in(0, 3)},
        {"reads", in(0, 3)},
        {"copy", in(0, 3), is(0), in(0, 3), is(0), is(0)},
        {"lay", in(0, 4), in(0, 3), is(0)},
        {"lay", in(0, 4), is(1), in(0, 2)},
        {"lay", in(0, 4), is(2), in(0, 3)},
        {"ask", in(0, 4), in(0, 5)},
        {"item", in(0, 4), is(0)},
        {"rest", in(0, 4), is(1)},
        {"count", in(0, 7)}};

    public static void main(String[] args) throws Exception {
        theRichOneIsRich();
        for (Object[] row : BOUNDS) {
            inside(row);
            for (int at = 1; at < row.length; at++) {
                outside(row, at);
            }
            allOutside(row);
        }
        check();
        whereAnyNumberIsRight();
        Due.end();
    }

    /** A number that may be from low to high. */
    private static int[] in(int low, int high) {
        return new int[] {low, high};
    }

    /** A number that is not tried here: another row tries it, or it has no BAD. */
    private static int[] is(int v) {
        return new int[] {v};
    }

    /** What is kept apart by the table below is told by what stands in the rich ferry. */
    private static void theRichOneIsRich() {
        RopeFerry x = Ferries.rich();
        Due.be("the rich one, LOADS", x.count(0), 3);
        Due.be("the rich one, TEXTS", x.count(4), 3);
        Due.be("the rich one, numbers that wait", x.count(5), 4);
        Due.be("the rich one, bytes", x.count(6), 8);
        Due.be("the rich one, THE STEP", x.count(1), 3);
        Due.be("the rich one, what waits is right", x.check(Ferries.STEPS_TOLD), 0);
        Due.be("the rich one, the tape is a TEXT", x.text(), 3);
    }

    private static int call(RopeFerry x, Object name, int... v) throws Exception {
        Class<?>[] types = new Class<?>[v.length];
        Object[] values = new Object[v.length];
        for (int i = 0; i < v.length; i++) {
            types[i] = int.class;
            values[i] = v[i];
        }
        Method call = RopeFerry.class.getMethod((String) name, types);
        return (Integer) call.invoke(x, values);
    }

    private static int[] lowest(Object[] row) {
        int[] v = new int[row.length - 1];
        for (int i = 0; i < v.length; i++) {
            v[i] = ((int[]) row[i + 1])[0];
        }
        return v;
    }

    private static boolean isTried(Object[] row, int at) {
        return ((int[]) row[at]).length == 2;
    }

    private static int[] wrongOnes(Object[] row, int at) {
        int[] bounds = (int[]) row[at];
        return new int[] {bounds[0] - 1, bounds[1] + 1, LOW, HIGH};
    }

    private static String told(Object[] row, int[] v) {
        return row[0] + java.util.Arrays.toString(v);
    }

    /** All of the leasts and mosts of a row's numbers by one another. */
    private static void inside(Object[] row) throws Exception {
        Set<String> told = new LinkedHashSet<>();
        for (int set = 0; set < 1 << row.length - 1; set++) {
            int[] v = lowest(row);
            for (int i = 0; i < v.length; i++) {
                boolean most = (set >> i & 1) == 1 && isTried(row, i + 1);
                v[i] = most ? ((int[]) row[i + 1])[1] : v[i];
            }
            if (told.add(told(row, v))) {
                int answer = call(Ferries.rich(), row[0], v);
                Due.holds(told(row, v) + " is within its bounds, answered " + answer, answer != BAD);
            }
        }
    }

    private static void outside(Object[] row, int at) throws Exception {
        if (!isTried(row, at)) {
            return;
        }
        for (int wrong : wrongOnes(row, at)) {
            int[] v = lowest(row);
            v[at - 1] = wrong;
            isBad(row, v);
        }
    }

    /** Each number just outside: which of them is found first is one, all are BAD. */
    private static void allOutside(Object[] row) throws Exception {
        for (int which = 0; which < 4; which++) {
            int[] v = lowest(row);
            for (int i = 0; i < v.length; i++) {
                v[i] = isTried(row, i + 1) ? wrongOnes(row, i + 1)[which] : v[i];
            }
            isBad(row, v);
        }
    }

    private static void isBad(Object[] row, int[] v) throws Exception {
        RopeFerry x = Ferries.rich();
        Due.be(told(row, v) + " is outside its bounds", call(x, row[0], v), BAD);
        Due.row(told(row, v) + ", what stays", Whole.of(x), Whole.of(Ferries.rich()));
    }

    /** check uses up the numbers that wait, whatever it answers; all else stays. */
    private static void check() {
        for (int wrong : new int[] {0, 31, -1, LOW, HIGH}) {
            Whole.stays("39 check(" + wrong + ")", Ferries::rich, x -> x.check(wrong), BAD, () -> Ferries.rich(false, true));
        }
        for (int n : new int[] {1, 30}) {
            Due.holds("39 check(" + n + ") is within its bounds", Ferries.rich().check(n) > 0);
        }
    }

    private static void whereAnyNumberIsRight() {
        for (int v : new int[] {LOW, -1, 0, 1, HIGH, BAD, RopeFerry.NONE}) {
            RopeFerry x = Ferries.rich();
            int z = x.count(7);
            Due.be("12 seed(" + v + ")", x.seed(v), z);
            Due.be("12 seed(" + v + ") is z", x.count(7), v);
            Due.be("38 tell(" + v + ")", x.tell(v), 5);
            Due.be("34 the number " + v, x.lay(3, 3, v), 3);
            Due.be("34 the number " + v, x.rest(3, HIGH), v % HIGH);
            Due.be("34 nothing, k " + v, x.lay(3, 0, v), 3);
            Due.be("34 nothing, k " + v, x.rest(3, 1), RopeFerry.NOTHING);
            Due.be("29 MISSING, n " + v, x.sheet(0, -1, v), 0);
            Due.be("29 MISSING, n " + v, x.reads(0), RopeFerry.NOTHING);
        }
    }
}
