import java.util.ArrayList;
import java.util.List;
import java.util.function.ToIntFunction;

/** Promise 1: a new object is as told, and each goes on as one that stands alone, whatever is called on others. */
public final class ApartTest {
    private static final String[][] TEXTS = {
        {"toll w+1", "fine t*2+p", "pull s*(w+a)/20", "fine p-t"},
        {"pull w+s+5*a/4", "toll v*2+w-3+s/9", "fine t", "toll !w+(v>3)"},
        {"fine (p+t)*7-1", "fine 1|t", "toll 5", "pull 3*w"}};

    public static void main(String[] args) {
        byTurns();
        oneBehindTheOther();
        aNewOneBetween();
        Due.end();
    }

    private static void byTurns() {
        RopeFerry[] ferries = {new RopeFerry(), new RopeFerry(), new RopeFerry()};
        int[][] answers = new int[ferries.length][plan(0).size()];
        for (int call = 0; call < plan(0).size(); call++) {
            for (int i = 0; i < ferries.length; i++) {
                answers[i][call] = plan(i).get(call).applyAsInt(ferries[i]);
            }
        }
        for (int i = 0; i < ferries.length; i++) {
            Due.row("1 by turns, ferry " + i, answers[i], answers(new RopeFerry(), i));
        }
        areAsAlone("1 by turns", ferries);
    }

    private static void oneBehindTheOther() {
        RopeFerry[] ferries = {new RopeFerry(), new RopeFerry(), new RopeFerry()};
        for (int i = 0; i < ferries.length; i++) {
            answers(ferries[i], i);
        }
        areAsAlone("1 one behind the other", ferries);
    }

    private static void aNewOneBetween() {
        for (int i = 0; i < TEXTS.length; i++) {
            RopeFerry x = new RopeFerry();
            for (ToIntFunction<RopeFerry> call : plan(i)) {
                call.applyAsInt(x);
                Due.be("1 a new one has no LOADS", new RopeFerry().count(0), 0);
            }
            RopeFerry fresh = new RopeFerry();
            Due.row("1 a new one beside an old one", Whole.of(fresh), Whole.of(new RopeFerry()));
            Due.row("1 an old one beside new ones", Whole.of(x), alone(i));
        }
    }

    private static void areAsAlone(String what, RopeFerry[] ferries) {
        int[][] told = new int[ferries.length][];
        for (int i = 0; i < ferries.length; i++) {
            told[i] = Whole.of(ferries[i]);
        }
        for (int i = 0; i < ferries.length; i++) {
            Due.row(what + ", all of ferry " + i, told[i], alone(i));
        }
    }

    private static int[] alone(int which) {
        RopeFerry x = new RopeFerry();
        answers(x, which);
        return Whole.of(x);
    }

    private static int[] answers(RopeFerry x, int which) {
        List<ToIntFunction<RopeFerry>> plan = plan(which);
        int[] answers = new int[plan.size()];
        for (int call = 0; call < answers.length; call++) {
            answers[call] = plan.get(call).applyAsInt(x);
        }
        return answers;
    }

    /** Calls behind which something stands wherever a ferry keeps something; each plan leaves other things there. */
    private static List<ToIntFunction<RopeFerry>> plan(int which) {
        int v = 1 + which;
        List<ToIntFunction<RopeFerry>> plan = new ArrayList<>();
        plan.add(x -> x.seed(11 * v));
        plan.add(x -> x.load(v, 20 + v, 0));
        plan.add(x -> x.load(5 - v, 30 - v, 1));
        plan.add(x -> x.deal(v));
        plan.add(x -> x.set(0, 3, 7 * v));
        int[] rules = {v % 2, 25 + v, 6 + v, 41 + v, 350 - v, v};
        for (int what = 0; what < rules.length; what++) {
            int rule = what;
            plan.add(x -> x.rule(rule, rules[rule]));
        }
        addText(plan, TEXTS[which][0]);
        addText(plan, TEXTS[which][1]);
        plan.add(x -> x.keep());
        for (int n = 1; n <= Ferries.STEPS_TOLD; n++) {
            int steps = n;
            plan.add(x -> x.tell(x.behind(steps, 1)));
            plan.add(x -> x.tell(x.behind(steps, 0)));
        }
        plan.add(x -> x.steps(2 + v));
        plan.add(x -> x.left(5, 1));
        addText(plan, TEXTS[which][2]);
        addRows(plan, v);
        plan.add(x -> put(x, TEXTS[which][3]));
        return plan;
    }

    private static void addText(List<ToIntFunction<RopeFerry>> plan, String text) {
        plan.add(x -> put(x, text));
        plan.add(x -> x.text());
    }

    private static int put(RopeFerry x, String text) {
        Tape.put(x, text);
        return x.count(6);
    }

    private static void addRows(List<ToIntFunction<RopeFerry>> plan, int v) {
        for (int sheet = 0; sheet < 4; sheet++) {
            int row = sheet;
            plan.add(x -> x.sheet(row, (row + v) % 2, 3));
            plan.add(x -> x.mark(row, 0, 100 * v + row));
            plan.add(x -> x.mark(row, 2, (row + v) % 2 == 0 ? -v : RopeFerry.NONE));
        }
        plan.add(x -> x.pour(v));
        plan.add(x -> x.lay(1, 1, v % 2));
        plan.add(x -> x.lay(2, 2, v));
        plan.add(x -> x.lay(3, 3, 17 + v));
        plan.add(x -> x.lay(4, 3 - v, v % 2));
    }
}
