import java.util.ArrayList;
import java.util.List;

/**
 * The document once more, as plainly as may be and by other ways than RopeFerry's: KINDS as classes under one
 * another, TEXTS read by a row of what may come next and worked out by splitting them at their loosest sign.
 */
public final class Model {
    static final int BAD = -1000000001;
    static final int NO = -1000000002;
    static final int FULL = -1000000003;
    static final int NONE = -1000000005;
    static final int NOTHING = -1000000011;
    static final int KIND = -1000000012;
    static final int INDEX = -1000000013;
    static final int SIZE = -1000000014;

    private World now = new World();
    private World image = null;
    private String tape = "";
    private final List<Integer> numbers = new ArrayList<>();
    private final Object[][] sheets = new Object[4][];
    private final int[] sorts = new int[4];
    private final Object[] slots = new Object[5];

    // ---- KINDS

    static class Cart implements Cloneable {
        int weight;
        int bank;
        int waits;
        int over;

        int number() {
            return 0;
        }

        int pays(World in) {
            String law = in.law("toll");
            int gives = law == null ? weight : Text.gives(law, "wsv", weight, in.stream, waits);
            return Math.min(999, Math.max(0, gives));
        }

        int takes() {
            return 2;
        }

        int urges() {
            return waits;
        }

        int worth() {
            return weight;
        }

        Cart again() {
            try {
                return (Cart) clone();
            } catch (CloneNotSupportedException e) {
                throw new IllegalStateException(e);
            }
        }
    }

    static class Coach extends Cart {
        @Override
        int number() {
            return 1;
        }

        @Override
        int pays(World in) {
            return 2 * super.pays(in);
        }

        @Override
        int takes() {
            return 3;
        }

        @Override
        int urges() {
            return super.urges() + 5;
        }

        @Override
        int worth() {
            return super.worth() + 8;
        }
    }

    static class Hearse extends Coach {
        @Override
        int number() {
            return 3;
        }

        @Override
        int pays(World in) {
            return Math.max(0, super.pays(in) - 10);
        }

        @Override
        int urges() {
            return 0;
        }

        @Override
        int worth() {
            return 2 * super.worth();
        }
    }

    static class Flock extends Cart {
        @Override
        int number() {
            return 2;
        }

        @Override
        int pays(World in) {
            return super.pays(in) / 2;
        }

        @Override
        int takes() {
            return 1;
        }

        @Override
        int urges() {
            return super.urges() / 2;
        }

        @Override
        int worth() {
            return 99 - weight;
        }
    }

    static class Herd extends Flock {
        @Override
        int number() {
            return 4;
        }

        @Override
        int pays(World in) {
            return super.pays(in) + 3;
        }

        @Override
        int takes() {
            return 4;
        }

        @Override
        int worth() {
            return super.worth() - 7;
        }
    }

    static class Doctor extends Cart {
        @Override
        int number() {
            return 5;
        }

        @Override
        int pays(World in) {
            return 0;
        }

        @Override
        int urges() {
            return 9999;
        }

        @Override
        int worth() {
            return 5;
        }
    }

    private static Cart made(int kind) {
        Cart[] all = {new Cart(), new Coach(), new Flock(), new Hearse(), new Herd(), new Doctor()};
        return all[kind];
    }

    private static boolean isOf(Cart load, int kind) {
        return made(kind).getClass().isInstance(load);
    }

    // ---- what an IMAGE keeps

    static final class World {
        List<Cart> loads = new ArrayList<>();
        List<String> texts = new ArrayList<>();
        int side = 0;
        int slant = 30;
        int room = 6;
        int stream = 40;
        int mark = 300;
        int least = 1;
        int time = 0;
        int tolls = 0;
        int step = 0;
        int z = 1;
        Cart without = null;

        World again() {
            World w = new World();
            for (Cart load : loads) {
                w.loads.add(load.again());
            }
            w.texts.addAll(texts);
            w.side = side;
            w.slant = slant;
            w.room = room;
            w.stream = stream;
            w.mark = mark;
            w.least = least;
            w.time = time;
            w.tolls = tolls;
            w.step = step;
            w.z = z;
            return w;
        }

        String law(String key) {
            String found = null;
            for (String text : texts) {
                if (text.trim().startsWith(key)) {
                    found = text;
                }
            }
            return found;
        }

        int draw() {
            z = z * 1103515245 + 12345;
            return z >>> 8;
        }

        int pull(int weight) {
            String law = law("pull");
            if (law == null) {
                return stream * (weight + 20) / 10;
            }
            return Math.min(9999, Math.max(0, Text.gives(law, "swa", stream, weight, slant)));
        }

        int effect() {
            return Math.max(0, 30 - Math.abs(slant - 30));
        }

        int minutes() {
            if (stream == 0 || effect() == 0) {
                return 60;
            }
            return Math.min(60, 4 + 300 / (1 + stream * effect() / 30));
        }

        List<Cart> on(int bank) {
            List<Cart> there = new ArrayList<>();
            for (Cart load : loads) {
                if (load.bank == bank) {
                    there.add(load);
                }
            }
            return there;
        }

        List<Cart> loading() {
            List<Cart> asked = on(side);
            asked.remove(without);
            asked.sort((a, b) -> Integer.compare(b.urges(), a.urges()));
            List<Cart> aboard = new ArrayList<>();
            int left = room;
            int weight = 0;
            for (Cart load : asked) {
                if (load.takes() <= left && pull(weight + load.weight) <= mark) {
                    aboard.add(load);
                    left -= load.takes();
                    weight += load.weight;
                }
            }
            return aboard;
        }

        void step() {
            List<Cart> aboard = new ArrayList<>();
            int minutes;
            boolean doctor = false;
            for (Cart load : on(side)) {
                doctor |= load.number() == 5;
            }
            if (pull(0) > mark) {
                minutes = 10;
            } else if (on(side).size() < least && !doctor) {
                if (on(1 - side).isEmpty() || !on(side).isEmpty()) {
                    minutes = 5;
                } else {
                    minutes = minutes();
                    side = 1 - side;
                }
            } else {
                aboard = loading();
                minutes = minutes();
                for (Cart load : aboard) {
                    tolls += load.pays(this);
                }
                for (Cart load : aboard) {
                    load.bank = 1 - side;
                    load.waits = 0;
                    load.over++;
                }
                side = 1 - side;
            }
            time += minutes;
            for (Cart load : loads) {
                if (!aboard.contains(load)) {
                    load.waits += minutes;
                }
            }
            stream = Math.min(99, Math.max(0, stream + draw() % 7 - 3));
            step++;
        }

        World behind(int n) {
            for (int i = 0; i < n; i++) {
                step();
            }
            return this;
        }

        int waits() {
            int sum = 0;
            for (Cart load : loads) {
                sum += load.waits;
            }
            return sum;
        }

        int over() {
            int sum = 0;
            for (Cart load : loads) {
                sum += load.over;
            }
            return sum;
        }

        boolean allOver() {
            for (Cart load : loads) {
                if (load.over == 0) {
                    return false;
                }
            }
            return true;
        }
    }

    // ---- TEXTS

    static final class Text {
        private Text() {
        }

        /** Words and signs: where each begins in a text. */
        static List<Integer> begins(String tape) {
            List<Integer> row = new ArrayList<>();
            char ahead = ' ';
            for (int i = 0; i < tape.length(); i++) {
                char sort = sort(tape.charAt(i));
                if (sort != ' ' && (sort == '.' || sort != ahead)) {
                    row.add(i);
                }
                ahead = sort;
            }
            return row;
        }

        private static char sort(char c) {
            return c == ' ' ? ' ' : c >= 'a' && c <= 'z' ? 'a' : c >= '0' && c <= '9' ? '0' : '.';
        }

        static String word(String tape, int at) {
            char sort = sort(tape.charAt(at));
            int end = at + 1;
            while (sort != '.' && end < tape.length() && sort(tape.charAt(end)) == sort) {
                end++;
            }
            return tape.substring(at, end);
        }

        static int fault(String tape) {
            List<Integer> begins = begins(tape);
            if (begins.isEmpty()) {
                return tape.length();
            }
            String key = word(tape, begins.get(0));
            int keyAt = List.of("toll", "pull", "fine").indexOf(key);
            if (keyAt < 0) {
                return begins.get(0);
            }
            String names = List.of("wsv", "swa", "tp").get(keyAt);
            // Of each ( that is open: whether its TEST was compared, and how many ! were open ahead of it.
            List<Boolean> compared = new ArrayList<>(List.of(false));
            List<Integer> notsAhead = new ArrayList<>();
            int nots = 0;
            boolean wantsPiece = true;
            int behind = begins.get(0) + key.length();
            for (int at : begins.subList(1, begins.size())) {
                String word = word(tape, at);
                boolean isWord = sort(word.charAt(0)) != '.';
                boolean glued = isWord && at == behind && sort(tape.charAt(at - 1)) != '.';
                behind = at + word.length();
                int level = compared.size() - 1;
                int around = level == 0 ? 0 : notsAhead.get(level - 1);
                if (wantsPiece) {
                    if (isWord) {
                        boolean number = sort(word.charAt(0)) == '0' && word.length() <= 4;
                        boolean name = word.length() == 1 && names.contains(word);
                        if (glued || !number && !name) {
                            return at;
                        }
                        wantsPiece = false;
                        nots = around;
                    } else if (word.equals("!") && nots < 8) {
                        nots++;
                    } else if (word.equals("(") && level < 8) {
                        compared.add(false);
                        notsAhead.add(nots);
                    } else {
                        return at;
                    }
                } else if ("+-*/".contains(word)) {
                    wantsPiece = true;
                } else if ("&|".contains(word)) {
                    wantsPiece = true;
                    compared.set(level, false);
                } else if ("<=>".contains(word) && !compared.get(level)) {
                    wantsPiece = true;
                    compared.set(level, true);
                } else if (word.equals(")") && level > 0) {
                    compared.remove(level);
                    notsAhead.remove(level - 1);
                    nots = level == 1 ? 0 : notsAhead.get(level - 2);
                } else {
                    return at;
                }
            }
            return wantsPiece || compared.size() > 1 ? tape.length() : -1;
        }

        static int pieces(String tape) {
            int many = -1;
            for (int at : begins(tape)) {
                many += sort(tape.charAt(at)) == '.' ? 0 : 1;
            }
            return many;
        }

        static int gives(String text, String names, int... values) {
            String e = text.replace(" ", "").substring(4);
            return value(e, names, values);
        }

        private static int value(String e, String names, int[] values) {
            for (String signs : List.of("|", "&", "<=>", "+-", "*/")) {
                int open = 0;
                for (int i = e.length() - 1; i > 0; i--) {
                    char c = e.charAt(i);
                    open += c == ')' ? 1 : c == '(' ? -1 : 0;
                    if (open == 0 && signs.indexOf(c) >= 0) {
                        int x = value(e.substring(0, i), names, values);
                        int y = value(e.substring(i + 1), names, values);
                        return joined(c, x, y);
                    }
                }
            }
            char first = e.charAt(0);
            if (first == '!') {
                return value(e.substring(1), names, values) == 0 ? 1 : 0;
            }
            if (first == '(') {
                return value(e.substring(1, e.length() - 1), names, values);
            }
            return Character.isDigit(first) ? Integer.parseInt(e) : values[names.indexOf(first)];
        }

        private static int joined(char c, long x, long y) {
            long z = c == '+' ? x + y : c == '-' ? x - y : c == '*' ? x * y : c == '/' ? y == 0 ? 0 : x / y
                : c == '<' ? x < y ? 1 : 0 : c == '>' ? x > y ? 1 : 0 : c == '=' ? x == y ? 1 : 0
                : c == '&' ? x != 0 && y != 0 ? 1 : 0 : x != 0 || y != 0 ? 1 : 0;
            return (int) z;
        }
    }

    // ---- loads, the boat

    private boolean no(int v, int low, int high) {
        return v < low || v > high;
    }

    private boolean noLoad(int load) {
        return no(load, 0, now.loads.size() - 1);
    }

    private int bits(List<Cart> set) {
        int bits = 0;
        for (Cart load : set) {
            bits += 1 << now.loads.indexOf(load);
        }
        return bits;
    }

    public int load(int kind, int weight, int bank) {
        if (no(kind, 0, 5) || no(weight, 1, 99) || no(bank, 0, 1)) {
            return BAD;
        }
        if (now.loads.size() == 10) {
            return FULL;
        }
        Cart one = made(kind);
        one.weight = weight;
        one.bank = bank;
        now.loads.add(one);
        return now.loads.size() - 1;
    }

    public int told(int load, int what) {
        if (noLoad(load) || no(what, 0, 8)) {
            return BAD;
        }
        Cart one = now.loads.get(load);
        return new int[] {one.number(), one.weight, one.bank, one.waits, one.over, one.pays(now), one.takes(),
            one.urges(), one.worth()}[what];
    }

    public int as(int load, int kind) {
        if (noLoad(load) || no(kind, 0, 5)) {
            return BAD;
        }
        return isOf(now.loads.get(load), kind) ? now.loads.get(load).weight : KIND;
    }

    public int turns(int load, int kind) {
        if (noLoad(load) || no(kind, 0, 5)) {
            return BAD;
        }
        Cart was = now.loads.get(load);
        Cart one = made(kind);
        one.weight = was.weight;
        one.bank = was.bank;
        one.waits = was.waits;
        one.over = was.over;
        now.loads.set(load, one);
        return was.number();
    }

    public int set(int load, int what, int v) {
        if (noLoad(load) || no(what, 1, 3)) {
            return BAD;
        }
        Cart one = now.loads.get(load);
        if (what == 1 ? no(v, 1, 99) : what == 2 ? no(v, 0, 1) : no(v, 0, 9999)) {
            return BAD;
        }
        int was = what == 1 ? one.weight : what == 2 ? one.bank : one.waits;
        if (what == 1) {
            one.weight = v;
        } else if (what == 2) {
            one.bank = v;
        } else {
            one.waits = v;
        }
        return was;
    }

    public int boat(int what) {
        if (no(what, 0, 7)) {
            return BAD;
        }
        return new int[] {now.side, now.slant, now.room, now.stream, now.mark, now.least, now.effect(),
            now.minutes()}[what];
    }

    public int rule(int what, int v) {
        if (no(what, 0, 5)) {
            return BAD;
        }
        int[][] bounds = {{0, 1}, {0, 90}, {1, 20}, {0, 99}, {1, 9999}, {0, 10}};
        if (no(v, bounds[what][0], bounds[what][1])) {
            return BAD;
        }
        int was = boat(what);
        switch (what) {
            case 0 -> now.side = v;
            case 1 -> now.slant = v;
            case 2 -> now.room = v;
            case 3 -> now.stream = v;
            case 4 -> now.mark = v;
            default -> now.least = v;
        }
        return was;
    }

    public int pull(int weight) {
        return no(weight, 0, 999) ? BAD : now.pull(weight);
    }

    public int loading() {
        return bits(now.loading());
    }

    public int deal(int n) {
        if (no(n, 1, 10)) {
            return BAD;
        }
        int came = 0;
        while (came < n && now.loads.size() < 10) {
            Cart one = made(now.draw() % 6);
            one.weight = 1 + now.draw() % 60;
            one.bank = now.draw() % 2;
            now.loads.add(one);
            came++;
        }
        return came;
    }

    public int seed(int v) {
        int was = now.z;
        now.z = v;
        return was;
    }

    // ---- steps

    public int steps(int n) {
        if (no(n, 1, 100)) {
            return BAD;
        }
        int ahead = now.tolls;
        for (int i = 0; i < n && now.step < 9999; i++) {
            now.step();
        }
        return now.tolls - ahead;
    }

    public int book(int what) {
        return no(what, 0, 3) ? BAD : new int[] {now.time, now.tolls, now.waits(), now.over()}[what];
    }

    public int high() {
        for (int stream = 0; stream < 100; stream++) {
            World w = now.again();
            w.stream = stream;
            if (w.pull(0) > w.mark) {
                return stream;
            }
        }
        return NONE;
    }

    public int best(int what) {
        if (no(what, 0, 1)) {
            return BAD;
        }
        int found = -1;
        int most = -1;
        for (int set = 1023; set >= 0; set--) {
            int pays = paidIfItFits(set);
            boolean better = pays > most || pays == most && Integer.bitCount(set) <= Integer.bitCount(found);
            if (pays >= 0 && better) {
                found = set;
                most = pays;
            }
        }
        return found < 0 ? NONE : what == 0 ? found : most;
    }

    private int paidIfItFits(int set) {
        int room = 0;
        int weight = 0;
        int pays = 0;
        for (int i = 0; i < 10; i++) {
            if ((set & 1 << i) != 0) {
                if (noLoad(i) || now.loads.get(i).bank != now.side) {
                    return -1;
                }
                room += now.loads.get(i).takes();
                weight += now.loads.get(i).weight;
            }
        }
        if (room > now.room || now.pull(weight) > now.mark) {
            return -1;
        }
        for (int i = 0; i < 10; i++) {
            pays += (set & 1 << i) != 0 ? now.loads.get(i).pays(now) : 0;
        }
        return pays;
    }

    // ---- what will be

    public int behind(int n, int what) {
        if (no(n, 0, 100) || no(what, 0, 4)) {
            return BAD;
        }
        World w = now.again().behind(n);
        return new int[] {w.tolls, w.time, w.waits(), w.side, w.stream}[what];
    }

    /** The place of the least of a row, or that least itself. */
    private static int least(List<Integer> row, int what) {
        int at = 0;
        for (int i = 0; i < row.size(); i++) {
            at = row.get(i) < row.get(at) ? i : at;
        }
        return what == 0 ? at : row.get(at);
    }

    /** The place of the most of a row, or that most itself. */
    private static int most(List<Integer> row, int what) {
        int at = 0;
        for (int i = 0; i < row.size(); i++) {
            at = row.get(i) > row.get(at) ? i : at;
        }
        return what == 0 ? at : row.get(at);
    }

    public int slant(int n, int what) {
        if (no(n, 1, 60) || no(what, 0, 1)) {
            return BAD;
        }
        List<Integer> row = new ArrayList<>();
        for (int slant = 0; slant <= 60; slant++) {
            World w = now.again();
            w.slant = slant;
            row.add(w.behind(n).waits());
        }
        return least(row, what);
    }

    public int patience(int n, int what) {
        if (no(n, 1, 60) || no(what, 0, 1)) {
            return BAD;
        }
        List<Integer> row = new ArrayList<>();
        for (int least = 0; least <= 10; least++) {
            World w = now.again();
            w.least = least;
            row.add(w.behind(n).tolls);
        }
        return most(row, what);
    }

    public int left(int n, int what) {
        if (no(n, 1, 60) || no(what, 0, 1)) {
            return BAD;
        }
        List<Integer> row = new ArrayList<>();
        for (int load = 0; load < now.loads.size(); load++) {
            World w = now.again();
            w.without = w.loads.get(load);
            row.add(w.behind(n).tolls);
        }
        return row.isEmpty() ? NONE : most(row, what);
    }

    public int allOver() {
        for (int n = 0; n <= 100; n++) {
            if (now.again().behind(n).allOver()) {
                return n;
            }
        }
        return NONE;
    }

    public int slanted(int sheet, int what) {
        if (no(sheet, 0, 3) || no(what, 0, 1)) {
            return BAD;
        }
        if (sheets[sheet] == null) {
            return NOTHING;
        }
        List<Integer> row = new ArrayList<>();
        for (int slant = 0; slant <= 60; slant++) {
            int sum = 0;
            for (int k = 0; k < sheets[sheet].length; k++) {
                if (sheets[sheet][k] != null) {
                    World w = now.again();
                    w.slant = slant;
                    sum += Math.abs(w.behind(k).time - (Integer) sheets[sheet][k]);
                }
            }
            row.add(sum);
        }
        return least(row, what);
    }

    public int fine() {
        String law = now.law("fine");
        return law == null ? now.tolls : Text.gives(law, "tp", now.time, now.tolls);
    }

    // ---- texts

    public int feed(int a, int b, int c) {
        if (tape.length() + 12 > 96) {
            return FULL;
        }
        for (int v : new int[] {a, b, c}) {
            tape += "" + (char) (v >>> 24) + (char) (v >>> 16 & 255) + (char) (v >>> 8 & 255) + (char) (v & 255);
        }
        return tape.length();
    }

    public int trim(int n) {
        if (no(n, 0, tape.length())) {
            return BAD;
        }
        tape = tape.substring(0, n);
        return n;
    }

    public int text() {
        String told = tape;
        tape = "";
        int fault = Text.fault(told);
        if (fault >= 0) {
            return -100 - fault;
        }
        if (now.texts.size() == 14) {
            return FULL;
        }
        now.texts.add(told);
        return now.texts.size() - 1;
    }

    private static int key(String text) {
        return List.of("toll", "pull", "fine").indexOf(text.trim().substring(0, 4));
    }

    public int textTold(int text, int what) {
        if (no(text, 0, now.texts.size() - 1) || no(what, 0, 1)) {
            return BAD;
        }
        return what == 0 ? key(now.texts.get(text)) : Text.pieces(now.texts.get(text));
    }

    public int why(int key) {
        if (no(key, 0, 2)) {
            return BAD;
        }
        for (int i = now.texts.size() - 1; i >= 0; i--) {
            if (key(now.texts.get(i)) == key) {
                return i;
            }
        }
        return NONE;
    }

    // ---- sheets, slots; NO NUMBER is null

    public int sheet(int sheet, int sort, int n) {
        if (no(sheet, 0, 3) || no(sort, -1, 1) || sort >= 0 && n > 24) {
            return BAD;
        }
        if (sort >= 0 && n < 0) {
            return SIZE;
        }
        sorts[sheet] = sort;
        sheets[sheet] = sort < 0 ? null : new Object[n];
        if (sort < 0) {
            return 0;
        }
        java.util.Arrays.fill(sheets[sheet], 0);
        return n;
    }

    public int mark(int sheet, int place, int v) {
        if (no(sheet, 0, 3)) {
            return BAD;
        }
        if (sheets[sheet] == null) {
            return NOTHING;
        }
        if (no(place, 0, sheets[sheet].length - 1)) {
            return INDEX;
        }
        if (sorts[sheet] == 0 && v == NONE) {
            return KIND;
        }
        if (sorts[sheet] == 1 && v != NONE && no(v, -99999, 99999)) {
            return BAD;
        }
        sheets[sheet][place] = v == NONE ? null : (Integer) (sorts[sheet] == 0 ? (short) v : v);
        return 1;
    }

    public int pour(int sheet) {
        if (no(sheet, 0, 3)) {
            return BAD;
        }
        if (sheets[sheet] == null) {
            return NOTHING;
        }
        int otherwise = 0;
        for (int i = 0; i < Math.min(now.loads.size(), sheets[sheet].length); i++) {
            if (sheets[sheet][i] != null) {
                int was = now.loads.get(i).weight;
                now.loads.get(i).weight = Math.max(1, Math.min(99, (Integer) sheets[sheet][i]));
                otherwise += was == now.loads.get(i).weight ? 0 : 1;
            }
        }
        return otherwise;
    }

    public int reads(int sheet) {
        if (no(sheet, 0, 3)) {
            return BAD;
        }
        if (sheets[sheet] == null) {
            return NOTHING;
        }
        for (int i = 0; i < sheets[sheet].length; i++) {
            if (sheets[sheet][i] != null && (noLoad(i) || now.loads.get(i).waits != (Integer) sheets[sheet][i])) {
                return i;
            }
        }
        return NONE;
    }

    public int copy(int from, int place, int to, int at, int many) {
        if (no(from, 0, 3) || no(to, 0, 3)) {
            return BAD;
        }
        if (sheets[from] == null || sheets[to] == null) {
            return NOTHING;
        }
        if (sorts[from] != sorts[to]) {
            return KIND;
        }
        try {
            System.arraycopy(sheets[from], place, sheets[to], at, many);
        } catch (IndexOutOfBoundsException e) {
            return INDEX;
        }
        return many;
    }

    private static int thing(Object held) {
        return held == null ? 0 : held instanceof Cart ? 1 : held instanceof Object[] ? 2 : 3;
    }

    public int lay(int slot, int thing, int k) {
        if (no(slot, 0, 4) || no(thing, 0, 3) || thing == 1 && noLoad(k) || thing == 2 && no(k, 0, 3)) {
            return BAD;
        }
        if (thing == 2 && sheets[k] == null) {
            return NOTHING;
        }
        int was = thing(slots[slot]);
        slots[slot] = thing == 0 ? null : thing == 1 ? now.loads.get(k).again() : thing == 2 ? sheets[k].clone() : k;
        return was;
    }

    public int ask(int slot, int kind) {
        if (no(slot, 0, 4) || no(kind, 0, 5)) {
            return BAD;
        }
        if (slots[slot] == null) {
            return NOTHING;
        }
        return slots[slot] instanceof Cart && isOf((Cart) slots[slot], kind) ? ((Cart) slots[slot]).worth() : KIND;
    }

    public int item(int slot, int place) {
        if (no(slot, 0, 4)) {
            return BAD;
        }
        if (slots[slot] == null) {
            return NOTHING;
        }
        if (thing(slots[slot]) != 2) {
            return KIND;
        }
        Object[] row = (Object[]) slots[slot];
        if (no(place, 0, row.length - 1)) {
            return INDEX;
        }
        return row[place] == null ? KIND : (Integer) row[place];
    }

    public int rest(int slot, int n) {
        if (no(slot, 0, 4)) {
            return BAD;
        }
        if (slots[slot] == null) {
            return NOTHING;
        }
        if (thing(slots[slot]) != 3) {
            return KIND;
        }
        return n == 0 ? NO : (int) ((long) (Integer) slots[slot] % n);
    }

    // ---- rows, images

    public int tell(int v) {
        if (numbers.size() == 60) {
            return FULL;
        }
        numbers.add(v);
        return numbers.size();
    }

    public int check(int n) {
        List<Integer> told = new ArrayList<>(numbers);
        numbers.clear();
        if (no(n, 1, 30)) {
            return BAD;
        }
        if (image == null) {
            return NO;
        }
        World w = image.again();
        List<Integer> due = new ArrayList<>();
        for (int i = 0; i < n && w.step < 9999; i++) {
            w.step();
            due.add(w.time);
            due.add(w.tolls);
        }
        if (told.equals(due)) {
            return 0;
        }
        int right = 0;
        while (right < told.size() && right < due.size() && told.get(right).equals(due.get(right))) {
            right++;
        }
        return 1 + right;
    }

    public int keep() {
        image = now.again();
        return now.loads.size();
    }

    public int back() {
        if (image == null) {
            return NO;
        }
        now = image.again();
        return now.loads.size();
    }

    public int count(int what) {
        if (no(what, 0, 7)) {
            return BAD;
        }
        return new int[] {now.loads.size(), now.step, now.on(0).size(), now.on(now.side).size(), now.texts.size(),
            numbers.size(), tape.length(), now.z}[what];
    }
}
