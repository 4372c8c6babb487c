import java.lang.reflect.Method;
import java.util.Random;

/** Runs of drawn calls on a RopeFerry and on a Model: each answer is to be the same. */
public final class ModelTest {
    private static final int NONE = RopeFerry.NONE;
    private static final int[] EDGES = {Integer.MIN_VALUE, Integer.MAX_VALUE, -1, 0, 1, NONE, 100000, -100000, 65536};

    /** A call, how often it is drawn, and of each argument the least and the most that is drawn. */
    private static final Object[][] CALLS = {
        {"load", 6, -1, 6, 0, 100, -1, 2}, {"told", 10, -1, 10, -1, 9}, {"as", 3, -1, 10, -1, 6},
        {"turns", 3, -1, 10, -1, 6}, {"set", 8, -1, 10, 0, 4, -1, 120}, {"boat", 4, -1, 8}, {"pull", 2, -1, 1000},
        {"loading", 8}, {"deal", 2, 0, 5}, {"seed", 1, -999, 999}, {"steps", 8, 0, 12}, {"book", 4, -1, 4},
        {"high", 1}, {"best", 2, -1, 2}, {"behind", 4, -1, 20, -1, 5}, {"slant", 1, 0, 12, -1, 2},
        {"patience", 2, 0, 20, -1, 2}, {"left", 2, 0, 20, -1, 2}, {"allOver", 1}, {"slanted", 1, -1, 4, -1, 2},
        {"fine", 3}, {"trim", 1, -1, 97}, {"text", 1}, {"textTold", 2, -1, 14, -1, 2}, {"why", 3, -1, 3},
        {"sheet", 4, -1, 4, -1, 2, -1, 25}, {"mark", 12, -1, 4, -1, 25, -200, 200}, {"pour", 2, -1, 4},
        {"reads", 2, -1, 4}, {"copy", 6, -1, 4, -1, 12, -1, 4, -1, 12, -1, 12}, {"lay", 6, -1, 5, -1, 4, -1, 10},
        {"ask", 4, -1, 5, -1, 6}, {"item", 6, -1, 5, -1, 24}, {"rest", 3, -1, 5, -9, 9}, {"tell", 2, -20, 50},
        {"check", 1, 0, 31}, {"keep", 1}, {"back", 1}, {"count", 4, -1, 8}};

    private static final String[] PIECES = {"w", "s", "v", "a", "t", "p", "0", "1", "7", "40", "300", "9999", "!", "!",
        "(", "(", ")", "+", "-", "*", "/", "<", "=", ">", "&", "|", " ", "12345", "%", "toll"};

    /** What an object answers behind so many calls is free; toldSteps asks for so many more at the most. */
    private static final int MOST_CALLS = 512;
    private static final int MOST_AT_ONCE = 60;

    private final Random random;
    private final RopeFerry ferry = new RopeFerry();
    private final Model model = new Model();
    private final StringBuilder told = new StringBuilder();
    private int calls = 0;

    private ModelTest(long seed) {
        random = new Random(seed);
    }

    public static void main(String[] args) throws Exception {
        for (long seed = 1; seed <= 600; seed++) {
            new ModelTest(seed).run();
        }
        for (long seed = 1; seed <= 40000; seed++) {
            faults(seed);
        }
        Due.end();
    }

    private void run() throws Exception {
        int weights = 0;
        for (Object[] call : CALLS) {
            weights += (Integer) call[1];
        }
        while (calls < MOST_CALLS - MOST_AT_ONCE) {
            int drawn = random.nextInt(weights + 8);
            if (drawn >= weights) {
                special(drawn - weights);
                continue;
            }
            int at = 0;
            while (drawn >= (Integer) CALLS[at][1]) {
                drawn -= (Integer) CALLS[at][1];
                at++;
            }
            one(CALLS[at]);
        }
    }

    private void special(int which) throws Exception {
        if (which <= 2) {
            int[][] bounds = {{0, 1}, {0, 90}, {1, 20}, {0, 99}, {1, 9999}, {0, 10}};
            int what = random.nextInt(6);
            int width = what == 4 && random.nextBoolean() ? 400 : bounds[what][1];
            call("rule", what, random.nextInt(width + 2));
        } else if (which <= 5) {
            tell(random.nextInt(4) == 0 ? anyText() : goodText());
        } else if (which == 6) {
            call("mark", random.nextInt(4), random.nextInt(24), NONE);
        } else if (random.nextInt(4) == 0) {
            call("rule", 3, 99);
            call("pull", 980 + random.nextInt(21));
        } else {
            toldSteps();
        }
    }

    /** Tells THE STEPS TOLD as they are, now and then one of them otherwise. */
    private void toldSteps() throws Exception {
        call("keep");
        int n = 1 + random.nextInt(12);
        for (int i = 1; i <= n; i++) {
            calls += 2;
            call("tell", ferry.behind(i, 1));
            call("tell", ferry.behind(i, 0) + (random.nextInt(12) == 0 ? 1 : 0));
        }
        call("check", n + random.nextInt(3) - 1);
    }

    private void one(Object[] call) throws Exception {
        int[] args = new int[(call.length - 2) / 2];
        for (int i = 0; i < args.length; i++) {
            int low = (Integer) call[2 + 2 * i];
            int high = (Integer) call[3 + 2 * i];
            boolean edge = random.nextInt(40) == 0;
            args[i] = edge ? EDGES[random.nextInt(EDGES.length)] : low + random.nextInt(high - low + 1);
        }
        call((String) call[0], args);
    }

    private int call(String name, int... args) throws Exception {
        Class<?>[] types = new Class<?>[args.length];
        Object[] values = new Object[args.length];
        for (int i = 0; i < args.length; i++) {
            types[i] = int.class;
            values[i] = args[i];
        }
        Method first = RopeFerry.class.getMethod(name, types);
        Method second = Model.class.getMethod(name, types);
        calls++;
        told.append(name).append(java.util.Arrays.toString(args)).append(' ');
        int got = (Integer) first.invoke(ferry, values);
        int due = (Integer) second.invoke(model, values);
        Due.be(got == due ? name : told.toString(), got, due);
        return got;
    }

    private void tell(String text) throws Exception {
        call("trim", 0);
        for (int i = 0; i < text.length(); i += 12) {
            call("feed", four(text, i), four(text, i + 4), four(text, i + 8));
        }
        call("trim", text.length());
        call("text");
    }

    private static int four(String text, int from) {
        int sum = 0;
        for (int i = from; i < from + 4; i++) {
            sum = sum << 8 | (i < text.length() ? text.charAt(i) & 255 : ' ');
        }
        return sum;
    }

    private String anyText() {
        StringBuilder text = new StringBuilder(new String[] {"toll ", "pull ", "fine ", " fine", ""}[random.nextInt(5)]);
        int many = random.nextInt(12);
        for (int i = 0; i < many; i++) {
            text.append(PIECES[random.nextInt(PIECES.length)]);
        }
        return text.length() > 96 ? text.substring(0, 96) : text.toString();
    }

    private String goodText() {
        int key = random.nextInt(3);
        String text = new String[] {"toll ", "pull ", "fine "}[key] + e(random.nextInt(5), new String[] {"wsv", "swa", "tp"}[key]);
        return text.length() > 96 ? text.substring(0, 96) : text;
    }

    private String e(int depth, String names) {
        int sort = random.nextInt(depth > 0 ? 8 : 2);
        String blank = random.nextInt(5) == 0 ? " " : "";
        if (sort == 0) {
            return blank + names.charAt(random.nextInt(names.length())) + blank;
        }
        if (sort == 1) {
            return blank + random.nextInt(random.nextBoolean() ? 12 : 10000) + blank;
        }
        if (sort == 2) {
            return blank + "!" + blank + e(depth - 1, names);
        }
        if (sort == 3) {
            return "(" + blank + e(depth - 1, names) + ")";
        }
        String sign = "" + "+-*/<=>&|+-*/+-".charAt(random.nextInt(15));
        return e(depth - 1, names) + sign + e(depth - 1, names);
    }

    /** Texts with some of their bytes drawn anew: their FAULTS, and what they give. */
    private static void faults(long seed) {
        ModelTest x = new ModelTest(seed);
        StringBuilder text = new StringBuilder(x.random.nextInt(5) == 0 ? nested(x.random) : x.goodText());
        for (int i = x.random.nextInt(3); i > 0; i--) {
            int at = x.random.nextInt(text.length());
            String piece = PIECES[x.random.nextInt(PIECES.length)];
            if (x.random.nextBoolean()) {
                text.setCharAt(at, piece.charAt(0));
            } else if (x.random.nextBoolean()) {
                text.insert(at, piece);
            } else {
                text.deleteCharAt(at);
            }
        }
        String told = text.length() > 96 ? text.substring(0, 96) : text.toString();
        int fault = Model.Text.fault(told);
        RopeFerry y = new RopeFerry();
        Due.be("text " + told, Tape.tell(y, told), fault < 0 ? 0 : -100 - fault);
        if (fault < 0) {
            Due.be("pieces " + told, y.textTold(0, 1), Model.Text.pieces(told));
        }
        if (fault < 0 && y.why(2) == 0) {
            Due.be("value " + told, y.fine(), Model.Text.gives(told, "tp", 0, 0));
        }
    }

    private static String nested(Random random) {
        StringBuilder text = new StringBuilder("fine ");
        int open = 0;
        for (int i = random.nextInt(28); i > 0; i--) {
            boolean opens = random.nextInt(5) < 3;
            text.append(opens ? "(" : "!");
            open += opens ? 1 : 0;
            if (random.nextInt(6) == 0) {
                text.append("1+");
            }
        }
        text.append('t');
        while (open-- > 0) {
            text.append(')');
            if (random.nextInt(4) == 0) {
                text.append("+!!p");
            }
        }
        return text.toString();
    }
}
