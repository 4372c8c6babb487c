/** A ferry on a rope, driven by the stream; README.md tells how to use it, ../shared/DOC.md what it answers. */
public final class RopeFerry {
    public static final int BAD = -1000000001;
    public static final int NO = -1000000002;
    public static final int FULL = -1000000003;
    public static final int NONE = -1000000005;
    public static final int NOTHING = -1000000011;
    public static final int KIND = -1000000012;
    public static final int INDEX = -1000000013;
    public static final int SIZE = -1000000014;

    private static final int MOST_LOADS = 10;
    private static final int MOST_STEPS = 9999;
    private static final int MOST_TEXTS = 14;
    private static final int MOST_BYTES = 96;
    private static final int MOST_SHEETS = 4;
    private static final int MOST_SLOTS = 5;
    private static final int MOST_PLACES = 24;
    private static final int MOST_NUMBERS = 60;

    private final Laws laws;
    private final Reader reader = new Reader();
    private final State now;
    private final State image;
    // What is only thought is played here, so that nothing is made in a call.
    private final State thought;
    private boolean imageKept = false;
    private final Sheet[] sheets = new Sheet[MOST_SHEETS];
    private final Slot[] slots = new Slot[MOST_SLOTS];
    private final int[] numbers = new int[MOST_NUMBERS];
    private int waiting = 0;

    public RopeFerry() {
        Laws shared = new Laws();
        laws = shared;
        now = new State(shared);
        image = new State(shared);
        thought = new State(shared);
        for (int i = 0; i < MOST_SHEETS; i++) {
            sheets[i] = new Sheet();
        }
        for (int i = 0; i < MOST_SLOTS; i++) {
            slots[i] = new Slot();
        }
    }

    // ---- loads, the boat

    public int load(int kind, int weight, int bank) {
        if (!Kinds.isKind(kind) || !within(weight, 1, 99) || !within(bank, 0, 1)) {
            return BAD;
        }
        if (now.count >= MOST_LOADS) {
            return FULL;
        }
        return now.comes(kind, weight, bank);
    }

    public int told(int load, int what) {
        if (!now.has(load)) {
            return BAD;
        }
        switch (what) {
            case 0: return now.kind[load];
            case 1: return now.weight[load];
            case 2: return now.bank[load];
            case 3: return now.waits[load];
            case 4: return now.over[load];
            case 5: return now.pays(load);
            case 6: return Kinds.takes(now.kind[load]);
            case 7: return Kinds.urges(now.kind[load], now.waits[load]);
            case 8: return Kinds.worth(now.kind[load], now.weight[load]);
            default: return BAD;
        }
    }

    public int as(int load, int kind) {
        if (!now.has(load) || !Kinds.isKind(kind)) {
            return BAD;
        }
        return Kinds.isOf(now.kind[load], kind) ? now.weight[load] : KIND;
    }

    public int turns(int load, int kind) {
        if (!now.has(load)) {
            return BAD;
        }
        return swapped(now.kind, load, kind, 0, Kinds.LAST);
    }

    public int set(int load, int what, int v) {
        if (!now.has(load)) {
            return BAD;
        }
        switch (what) {
            case 1: return swapped(now.weight, load, v, 1, 99);
            case 2: return swapped(now.bank, load, v, 0, 1);
            case 3: return swapped(now.waits, load, v, 0, 9999);
            default: return BAD;
        }
    }

    public int boat(int what) {
        switch (what) {
            case 6: return now.effect();
            case 7: return now.minutes();
            default: return within(what, 0, State.RULES - 1) ? now.rules[what] : BAD;
        }
    }

    public int rule(int what, int v) {
        if (!within(what, 0, State.RULES - 1)) {
            return BAD;
        }
        return swapped(now.rules, what, v, State.LOWEST[what], State.HIGHEST[what]);
    }

    public int pull(int weight) {
        return within(weight, 0, 999) ? now.pullAt(now.rules[State.STREAM], weight) : BAD;
    }

    public int loading() {
        return now.whoBoards();
    }

    public int deal(int n) {
        if (!within(n, 1, 10)) {
            return BAD;
        }
        int came = Math.min(n, MOST_LOADS - now.count);
        for (int i = 0; i < came; i++) {
            int kind = now.draw() % (Kinds.LAST + 1);
            int weight = 1 + now.draw() % 60;
            int bank = now.draw() % 2;
            now.comes(kind, weight, bank);
        }
        return came;
    }

    public int seed(int v) {
        int was = now.z;
        now.z = v;
        return was;
    }

    // ---- steps

    public int steps(int n) {
        if (!within(n, 1, 100)) {
            return BAD;
        }
        int ahead = now.tolls;
        now.goOn(Math.min(n, MOST_STEPS - now.step));
        return now.tolls - ahead;
    }

    public int book(int what) {
        switch (what) {
            case 0: return now.time;
            case 1: return now.tolls;
            case 2: return now.allOf(now.waits);
            case 3: return now.allOf(now.over);
            default: return BAD;
        }
    }

    public int high() {
        for (int stream = 0; stream <= 99; stream++) {
            if (now.pullAt(stream, 0) > now.rules[State.MARK]) {
                return stream;
            }
        }
        return NONE;
    }

    public int best(int what) {
        if (!within(what, 0, 1)) {
            return BAD;
        }
        int set = now.bestSet();
        if (set < 0) {
            return NONE;
        }
        return what == 0 ? set : now.paidBy(set);
    }

    // ---- what will be

    public int behind(int n, int what) {
        if (!within(n, 0, 100) || !within(what, 0, 4)) {
            return BAD;
        }
        thought.become(now);
        thought.goOn(n);
        switch (what) {
            case 0: return thought.tolls;
            case 1: return thought.time;
            case 2: return thought.allOf(thought.waits);
            case 3: return thought.rules[State.SIDE];
            default: return thought.rules[State.STREAM];
        }
    }

    public int slant(int n, int what) {
        if (!within(n, 1, 60) || !within(what, 0, 1)) {
            return BAD;
        }
        int found = 0;
        int least = 0;
        for (int slant = 0; slant <= 60; slant++) {
            thought.become(now);
            thought.rules[State.SLANT] = slant;
            thought.goOn(n);
            int waits = thought.allOf(thought.waits);
            if (slant == 0 || waits < least) {
                found = slant;
                least = waits;
            }
        }
        return what == 0 ? found : least;
    }

    public int patience(int n, int what) {
        if (!within(n, 1, 60) || !within(what, 0, 1)) {
            return BAD;
        }
        int found = 0;
        int most = 0;
        for (int least = 0; least <= 10; least++) {
            thought.become(now);
            thought.rules[State.LEAST] = least;
            thought.goOn(n);
            if (least == 0 || thought.tolls > most) {
                found = least;
                most = thought.tolls;
            }
        }
        return what == 0 ? found : most;
    }

    public int left(int n, int what) {
        if (!within(n, 1, 60) || !within(what, 0, 1)) {
            return BAD;
        }
        int found = NONE;
        int most = NONE;
        for (int load = 0; load < now.count; load++) {
            thought.become(now);
            thought.leftOut = load;
            thought.goOn(n);
            if (load == 0 || thought.tolls > most) {
                found = load;
                most = thought.tolls;
            }
        }
        return what == 0 ? found : most;
    }

    public int allOver() {
        thought.become(now);
        for (int n = 0; n <= 100; n++) {
            if (thought.haveAllBeenOver()) {
                return n;
            }
            thought.takeStep();
        }
        return NONE;
    }

    public int slanted(int sheet, int what) {
        Sheet times = sheetAt(sheet);
        if (times == null || !within(what, 0, 1)) {
            return BAD;
        }
        if (times.isMissing()) {
            return NOTHING;
        }
        int found = 0;
        int least = 0;
        for (int slant = 0; slant <= 60; slant++) {
            int differences = differences(times, slant);
            if (slant == 0 || differences < least) {
                found = slant;
                least = differences;
            }
        }
        return what == 0 ? found : least;
    }

    private int differences(Sheet times, int slant) {
        int sum = 0;
        thought.become(now);
        thought.rules[State.SLANT] = slant;
        for (int k = 0; k < times.size; k++) {
            if (times.isNumber(k)) {
                sum += Math.abs(thought.time - times.places[k]);
            }
            thought.takeStep();
        }
        return sum;
    }

    public int fine() {
        int text = now.counts[Laws.FINE];
        return text < 0 ? now.tolls : laws.gives(text, now.time, now.tolls, 0);
    }

    // ---- texts

    public int feed(int a, int b, int c) {
        if (reader.length > MOST_BYTES - 12) {
            return FULL;
        }
        reader.take(a);
        reader.take(b);
        reader.take(c);
        return reader.length;
    }

    public int trim(int n) {
        if (!within(n, 0, reader.length)) {
            return BAD;
        }
        reader.length = n;
        return n;
    }

    public int text() {
        int fault = reader.readTape();
        reader.length = 0;
        if (fault >= 0) {
            return -100 - fault;
        }
        if (now.texts >= MOST_TEXTS) {
            return FULL;
        }
        int text = now.texts;
        laws.learn(text, reader);
        now.counts[reader.key] = text;
        now.texts = text + 1;
        return text;
    }

    public int textTold(int text, int what) {
        if (!within(text, 0, now.texts - 1)) {
            return BAD;
        }
        switch (what) {
            case 0: return laws.key[text];
            case 1: return laws.pieces[text];
            default: return BAD;
        }
    }

    public int why(int key) {
        if (!within(key, 0, Laws.KEYS - 1)) {
            return BAD;
        }
        return now.counts[key] < 0 ? NONE : now.counts[key];
    }

    // ---- sheets, slots

    public int sheet(int sheet, int sort, int n) {
        Sheet row = sheetAt(sheet);
        if (row == null || !within(sort, Sheet.MISSING, Sheet.FLOATS)) {
            return BAD;
        }
        if (sort == Sheet.MISSING) {
            row.becomesNew(sort, 0);
            return 0;
        }
        if (n > MOST_PLACES) {
            return BAD;
        }
        if (n < 0) {
            return SIZE;
        }
        row.becomesNew(sort, n);
        return n;
    }

    public int mark(int sheet, int place, int v) {
        Sheet row = sheetAt(sheet);
        if (row == null) {
            return BAD;
        }
        if (row.isMissing()) {
            return NOTHING;
        }
        if (!row.hasPlace(place)) {
            return INDEX;
        }
        if (row.sort == Sheet.SHORTS) {
            if (v == NONE) {
                return KIND;
            }
            row.places[place] = (short) v;
            return 1;
        }
        if (v == NONE) {
            row.places[place] = Sheet.NO_NUMBER;
            return 1;
        }
        if (!within(v, -99999, 99999)) {
            return BAD;
        }
        row.places[place] = v;
        return 1;
    }

    public int pour(int sheet) {
        Sheet row = sheetAt(sheet);
        if (row == null) {
            return BAD;
        }
        if (row.isMissing()) {
            return NOTHING;
        }
        int otherwise = 0;
        for (int load = 0; load < now.count && load < row.size; load++) {
            if (row.isNumber(load)) {
                int weight = held(row.places[load], 1, 99);
                if (weight != now.weight[load]) {
                    otherwise++;
                }
                now.weight[load] = weight;
            }
        }
        return otherwise;
    }

    public int reads(int sheet) {
        Sheet row = sheetAt(sheet);
        if (row == null) {
            return BAD;
        }
        if (row.isMissing()) {
            return NOTHING;
        }
        for (int place = 0; place < row.size; place++) {
            if (row.isNumber(place) && !(now.has(place) && now.waits[place] == row.places[place])) {
                return place;
            }
        }
        return NONE;
    }

    public int copy(int from, int place, int to, int at, int many) {
        Sheet source = sheetAt(from);
        Sheet target = sheetAt(to);
        if (source == null || target == null) {
            return BAD;
        }
        if (source.isMissing() || target.isMissing()) {
            return NOTHING;
        }
        if (source.sort != target.sort) {
            return KIND;
        }
        if (!source.hasPlaces(place, many) || !target.hasPlaces(at, many)) {
            return INDEX;
        }
        System.arraycopy(source.places, place, target.places, at, many);
        return many;
    }

    public int lay(int slot, int thing, int k) {
        Slot place = slotAt(slot);
        if (place == null || !within(thing, Slot.NO_THING, Slot.NUMBER)) {
            return BAD;
        }
        if (thing == Slot.LOAD) {
            if (!now.has(k)) {
                return BAD;
            }
            place.kind = now.kind[k];
            place.weight = now.weight[k];
        }
        if (thing == Slot.SHEET) {
            Sheet row = sheetAt(k);
            if (row == null) {
                return BAD;
            }
            if (row.isMissing()) {
                return NOTHING;
            }
            place.row.become(row);
        }
        if (thing == Slot.NUMBER) {
            place.number = k;
        }
        int was = place.thing;
        place.thing = thing;
        return was;
    }

    public int ask(int slot, int kind) {
        Slot place = slotAt(slot);
        if (place == null || !Kinds.isKind(kind)) {
            return BAD;
        }
        if (place.thing == Slot.NO_THING) {
            return NOTHING;
        }
        if (place.thing != Slot.LOAD || !Kinds.isOf(place.kind, kind)) {
            return KIND;
        }
        return Kinds.worth(place.kind, place.weight);
    }

    public int item(int slot, int place) {
        Slot holder = slotAt(slot);
        if (holder == null) {
            return BAD;
        }
        if (holder.thing == Slot.NO_THING) {
            return NOTHING;
        }
        if (holder.thing != Slot.SHEET) {
            return KIND;
        }
        if (!holder.row.hasPlace(place)) {
            return INDEX;
        }
        return holder.row.isNumber(place) ? holder.row.places[place] : KIND;
    }

    public int rest(int slot, int n) {
        Slot holder = slotAt(slot);
        if (holder == null) {
            return BAD;
        }
        if (holder.thing == Slot.NO_THING) {
            return NOTHING;
        }
        if (holder.thing != Slot.NUMBER) {
            return KIND;
        }
        return n == 0 ? NO : holder.number % n;
    }

    private Sheet sheetAt(int sheet) {
        return within(sheet, 0, MOST_SHEETS - 1) ? sheets[sheet] : null;
    }

    private Slot slotAt(int slot) {
        return within(slot, 0, MOST_SLOTS - 1) ? slots[slot] : null;
    }

    // ---- rows, images

    public int tell(int v) {
        if (waiting >= MOST_NUMBERS) {
            return FULL;
        }
        numbers[waiting] = v;
        waiting++;
        return waiting;
    }

    public int check(int n) {
        int came = waiting;
        waiting = 0;
        if (!within(n, 1, 30)) {
            return BAD;
        }
        if (!imageKept) {
            return NO;
        }
        thought.become(image);
        int due = Math.min(n, MOST_STEPS - thought.step);
        for (int i = 0; i < due; i++) {
            thought.takeStep();
            if (!isNumberAt(2 * i, came, thought.time)) {
                return 1 + 2 * i;
            }
            if (!isNumberAt(2 * i + 1, came, thought.tolls)) {
                return 2 + 2 * i;
            }
        }
        return came > 2 * due ? 1 + 2 * due : 0;
    }

    private boolean isNumberAt(int place, int came, int v) {
        return place < came && within(place, 0, MOST_NUMBERS - 1) && numbers[place] == v;
    }

    public int keep() {
        image.become(now);
        imageKept = true;
        return now.count;
    }

    public int back() {
        if (!imageKept) {
            return NO;
        }
        now.become(image);
        return now.count;
    }

    public int count(int what) {
        switch (what) {
            case 0: return now.count;
            case 1: return now.step;
            case 2: return now.howManyOn(0);
            case 3: return now.howManyOn(now.rules[State.SIDE]);
            case 4: return now.texts;
            case 5: return waiting;
            case 6: return reader.length;
            case 7: return now.z;
            default: return BAD;
        }
    }

    private static boolean within(int v, int low, int high) {
        return v >= low && v <= high;
    }

    private static int held(int v, int low, int high) {
        return Math.max(low, Math.min(high, v));
    }

    /** Puts v at a place and answers what was there; BAD, if v is not within low and high. */
    private static int swapped(int[] row, int place, int v, int low, int high) {
        if (!within(v, low, high) || !within(place, 0, row.length - 1)) {
            return BAD;
        }
        int was = row[place];
        row[place] = v;
        return was;
    }

    /** What the KINDS of LOADS do, each as the one above it where it does nothing of its own. */
    private static final class Kinds {
        static final int CART = 0;
        static final int COACH = 1;
        static final int FLOCK = 2;
        static final int HEARSE = 3;
        static final int HERD = 4;
        static final int DOCTOR = 5;
        static final int LAST = 5;
        private static final int[] ABOVE = {-1, CART, CART, COACH, FLOCK, CART};

        static boolean isKind(int kind) {
            return within(kind, 0, LAST);
        }

        static boolean isOf(int kind, int wanted) {
            int at = kind;
            for (int i = 0; i <= LAST && isKind(at); i++) {
                if (at == wanted) {
                    return true;
                }
                at = ABOVE[at];
            }
            return false;
        }

        static int pays(int kind, int asCart) {
            switch (kind) {
                case COACH: return 2 * asCart;
                case HEARSE: return Math.max(0, 2 * asCart - 10);
                case FLOCK: return asCart / 2;
                case HERD: return asCart / 2 + 3;
                case DOCTOR: return 0;
                default: return asCart;
            }
        }

        static int takes(int kind) {
            switch (kind) {
                case COACH:
                case HEARSE: return 3;
                case FLOCK: return 1;
                case HERD: return 4;
                default: return 2;
            }
        }

        static int urges(int kind, int waits) {
            switch (kind) {
                case COACH: return waits + 5;
                case HEARSE: return 0;
                case FLOCK:
                case HERD: return waits / 2;
                case DOCTOR: return 9999;
                default: return waits;
            }
        }

        static int worth(int kind, int weight) {
            switch (kind) {
                case COACH: return weight + 8;
                case HEARSE: return 2 * (weight + 8);
                case FLOCK: return 99 - weight;
                case HERD: return 99 - weight - 7;
                case DOCTOR: return 5;
                default: return weight;
            }
        }
    }

    /** All that an IMAGE keeps: LOADS, THE BOAT, the river, the book, which TEXTS count. */
    private static final class State {
        static final int SIDE = 0;
        static final int SLANT = 1;
        static final int ROOM = 2;
        static final int STREAM = 3;
        static final int MARK = 4;
        static final int LEAST = 5;
        static final int RULES = 6;
        private static final int[] LOWEST = {0, 0, 1, 0, 1, 0};
        private static final int[] HIGHEST = {1, 90, 20, 99, 9999, 10};
        private static final int NOBODY = -1;

        private final Laws laws;
        private int count = 0;
        private final int[] kind = new int[MOST_LOADS];
        private final int[] weight = new int[MOST_LOADS];
        private final int[] bank = new int[MOST_LOADS];
        private final int[] waits = new int[MOST_LOADS];
        private final int[] over = new int[MOST_LOADS];
        private final int[] rules = {0, 30, 6, 40, 300, 1};
        private int time = 0;
        private int tolls = 0;
        private int step = 0;
        private int z = 1;
        // TEXTS are only ever added behind these, so their number is all that an IMAGE needs of them.
        private int texts = 0;
        private final int[] counts = {-1, -1, -1};
        // The LOAD that LOADING passes by, though it stands on its BANK: for left() alone.
        private int leftOut = NOBODY;

        State(Laws laws) {
            this.laws = laws;
        }

        void become(State other) {
            count = other.count;
            System.arraycopy(other.kind, 0, kind, 0, MOST_LOADS);
            System.arraycopy(other.weight, 0, weight, 0, MOST_LOADS);
            System.arraycopy(other.bank, 0, bank, 0, MOST_LOADS);
            System.arraycopy(other.waits, 0, waits, 0, MOST_LOADS);
            System.arraycopy(other.over, 0, over, 0, MOST_LOADS);
            System.arraycopy(other.rules, 0, rules, 0, RULES);
            System.arraycopy(other.counts, 0, counts, 0, Laws.KEYS);
            time = other.time;
            tolls = other.tolls;
            step = other.step;
            z = other.z;
            texts = other.texts;
            leftOut = other.leftOut;
        }

        boolean has(int load) {
            return within(load, 0, count - 1);
        }

        /** One more LOAD; the caller has seen that there is room for it. */
        int comes(int newKind, int newWeight, int newBank) {
            int load = count;
            if (!within(load, 0, MOST_LOADS - 1)) {
                return FULL;
            }
            kind[load] = newKind;
            weight[load] = newWeight;
            bank[load] = newBank;
            waits[load] = 0;
            over[load] = 0;
            count = load + 1;
            return load;
        }

        int draw() {
            z = z * 1103515245 + 12345;
            return z >>> 8;
        }

        int howManyOn(int side) {
            int many = 0;
            for (int i = 0; i < count; i++) {
                if (bank[i] == side) {
                    many++;
                }
            }
            return many;
        }

        int allOf(int[] row) {
            int sum = 0;
            for (int i = 0; i < count && i < row.length; i++) {
                sum += row[i];
            }
            return sum;
        }

        boolean haveAllBeenOver() {
            for (int i = 0; i < count; i++) {
                if (over[i] < 1) {
                    return false;
                }
            }
            return true;
        }

        int pays(int load) {
            if (!has(load)) {
                return 0;
            }
            int text = counts[Laws.TOLL];
            int toll = text < 0 ? weight[load] : laws.gives(text, weight[load], rules[STREAM], waits[load]);
            return Kinds.pays(kind[load], held(toll, 0, 999));
        }

        int paidBy(int set) {
            int sum = 0;
            for (int i = 0; i < count; i++) {
                if ((set >> i & 1) == 1) {
                    sum += pays(i);
                }
            }
            return sum;
        }

        int pullAt(int stream, int aboard) {
            int text = counts[Laws.PULL];
            if (text < 0) {
                // Nothing holds it here: the document's bounds are those of what a TEXT gives.
                return stream * (aboard + 20) / 10;
            }
            return held(laws.gives(text, stream, aboard, rules[SLANT]), 0, 9999);
        }

        int effect() {
            return Math.max(0, 30 - Math.abs(rules[SLANT] - 30));
        }

        int minutes() {
            int push = rules[STREAM] * effect();
            if (push <= 0) {
                return 60;
            }
            return Math.min(60, 4 + 300 / (1 + push / 30));
        }

        int whoBoards() {
            int asked = 0;
            int set = 0;
            int roomLeft = rules[ROOM];
            int aboard = 0;
            for (int i = 0; i < count; i++) {
                int load = mostUrging(asked);
                if (load < 0) {
                    return set;
                }
                asked |= 1 << load;
                int takes = Kinds.takes(kind[load]);
                if (takes <= roomLeft && pullAt(rules[STREAM], aboard + weight[load]) <= rules[MARK]) {
                    set |= 1 << load;
                    roomLeft -= takes;
                    aboard += weight[load];
                }
            }
            return set;
        }

        private int mostUrging(int asked) {
            int found = NOBODY;
            int most = 0;
            for (int i = 0; i < count; i++) {
                if (bank[i] == rules[SIDE] && (asked >> i & 1) == 0 && i != leftOut) {
                    int urges = Kinds.urges(kind[i], waits[i]);
                    if (found < 0 || urges > most) {
                        found = i;
                        most = urges;
                    }
                }
            }
            return found;
        }

        /** BEST LOADING as a set, -1 if no set does. */
        int bestSet() {
            int here = setOn(rules[SIDE]);
            int found = -1;
            int most = 0;
            for (int set = 0; set <= here; set++) {
                if ((set & ~here) == 0 && mayCross(set)) {
                    int paid = paidBy(set);
                    boolean fewer = paid == most && Integer.bitCount(set) < Integer.bitCount(found);
                    if (found < 0 || paid > most || fewer) {
                        found = set;
                        most = paid;
                    }
                }
            }
            return found;
        }

        private int setOn(int side) {
            int set = 0;
            for (int i = 0; i < count; i++) {
                if (bank[i] == side) {
                    set |= 1 << i;
                }
            }
            return set;
        }

        private boolean mayCross(int set) {
            int takes = 0;
            int aboard = 0;
            for (int i = 0; i < count; i++) {
                if ((set >> i & 1) == 1) {
                    takes += Kinds.takes(kind[i]);
                    aboard += weight[i];
                }
            }
            return takes <= rules[ROOM] && pullAt(rules[STREAM], aboard) <= rules[MARK];
        }

        void goOn(int n) {
            for (int i = 0; i < n; i++) {
                takeStep();
            }
        }

        void takeStep() {
            int aboard = 0;
            int goneBy;
            if (pullAt(rules[STREAM], 0) > rules[MARK]) {
                goneBy = 10;
            } else if (waitsForMore()) {
                goneBy = 5;
            } else {
                // Where the boat is rung for, nobody is on its BANK, so LOADING leaves it empty.
                aboard = whoBoards();
                goneBy = minutes();
                tolls += paidBy(aboard);
                crosses(aboard);
            }
            time += goneBy;
            for (int i = 0; i < count; i++) {
                if ((aboard >> i & 1) == 0) {
                    waits[i] += goneBy;
                }
            }
            rules[STREAM] = held(rules[STREAM] + draw() % 7 - 3, 0, 99);
            step++;
        }

        private boolean waitsForMore() {
            int here = howManyOn(rules[SIDE]);
            if (here >= rules[LEAST] || isDoctorHere()) {
                return false;
            }
            return here > 0 || count == here;
        }

        private boolean isDoctorHere() {
            for (int i = 0; i < count; i++) {
                if (bank[i] == rules[SIDE] && Kinds.isOf(kind[i], Kinds.DOCTOR)) {
                    return true;
                }
            }
            return false;
        }

        private void crosses(int aboard) {
            int otherSide = 1 - rules[SIDE];
            for (int i = 0; i < count; i++) {
                if ((aboard >> i & 1) == 1) {
                    bank[i] = otherSide;
                    waits[i] = 0;
                    over[i]++;
                }
            }
            rules[SIDE] = otherSide;
        }
    }

    /** TEXTS as they are worked out: each a row of numbers, names and signs, a sign behind what it joins. */
    private static final class Laws {
        static final int TOLL = 0;
        static final int PULL = 1;
        static final int FINE = 2;
        static final int KEYS = 3;
        /** In a row of code a number stands as it is, name k as -1 - k, a sign as less than all names. */
        static final int NAMES = 3;

        private final int[] key = new int[MOST_TEXTS];
        private final int[] pieces = new int[MOST_TEXTS];
        private final int[] size = new int[MOST_TEXTS];
        private final int[] code = new int[MOST_TEXTS * MOST_BYTES];
        private final int[] stack = new int[MOST_BYTES];

        void learn(int text, Reader reader) {
            if (!within(text, 0, MOST_TEXTS - 1)) {
                return;
            }
            key[text] = reader.key;
            pieces[text] = reader.pieces;
            size[text] = reader.size;
            System.arraycopy(reader.code, 0, code, text * MOST_BYTES, MOST_BYTES);
        }

        /** What a TEXT gives, with a, b, c for the names of its KEY. */
        int gives(int text, int a, int b, int c) {
            if (!within(text, 0, MOST_TEXTS - 1)) {
                return 0;
            }
            int top = 0;
            for (int i = 0; i < size[text] && i < MOST_BYTES; i++) {
                int word = code[text * MOST_BYTES + i];
                if (word >= -NAMES) {
                    if (top < MOST_BYTES) {
                        stack[top] = word >= 0 ? word : word == -1 ? a : word == -2 ? b : c;
                        top++;
                    }
                } else if (word == -'!') {
                    if (top >= 1) {
                        stack[top - 1] = stack[top - 1] == 0 ? 1 : 0;
                    }
                } else if (top >= 2) {
                    top--;
                    stack[top - 1] = joined(-word, stack[top - 1], stack[top]);
                }
            }
            return top >= 1 ? stack[top - 1] : 0;
        }

        private static int joined(int sign, int x, int y) {
            switch (sign) {
                case '|': return x != 0 || y != 0 ? 1 : 0;
                case '&': return x != 0 && y != 0 ? 1 : 0;
                case '<': return x < y ? 1 : 0;
                case '=': return x == y ? 1 : 0;
                case '>': return x > y ? 1 : 0;
                case '+': return x + y;
                case '-': return x - y;
                case '*': return x * y;
                case '/': return y == 0 ? 0 : x / y;
                default: return 0;
            }
        }
    }

    /** THE TAPE, and how a TEXT is read from it: by E's parts from the loosest to a PIECE, one word or sign ahead. */
    private static final class Reader {
        private static final int AT_END = -1;
        private static final int LETTERS = -2;
        private static final int DIGITS = -3;
        private static final int MOST_OPEN = 8;
        private static final int MOST_DIGITS = 4;
        private static final int NO_FAULT = -1;
        private static final int NO_NAME = -1;
        private static final char[] NAMES_BY_KEY = {'w', 's', 'v', 's', 'w', 'a', 't', 'p', ' '};

        private final int[] tape = new int[MOST_BYTES];
        private int length = 0;
        // The word or sign looked at: its first byte, the place behind it, LETTERS, DIGITS or the byte of the sign.
        private int start = 0;
        private int end = 0;
        private int sort = AT_END;
        private boolean isGlued = false;
        private int fault = NO_FAULT;
        private int key = 0;
        private final int[] code = new int[MOST_BYTES];
        private int size = 0;
        private int pieces = 0;

        /** Four bytes come to THE TAPE, the highest first. */
        void take(int four) {
            for (int shift = 24; shift >= 0; shift -= 8) {
                if (length < MOST_BYTES) {
                    tape[length] = four >>> shift & 255;
                    length++;
                }
            }
        }

        /** Reads THE TAPE as a TEXT into key, code, size and pieces: the place of its FAULT, -1 if it has none. */
        int readTape() {
            end = 0;
            sort = AT_END;
            fault = NO_FAULT;
            size = 0;
            pieces = 0;
            goAhead();
            readKey();
            readOr(0, 0);
            if (sort != AT_END) {
                meetsFault();
            }
            return fault;
        }

        private void goAhead() {
            boolean behindWord = isWord();
            int behind = end;
            start = end;
            while (start < length && byteAt(start) == ' ') {
                start++;
            }
            sort = sortAt(start);
            end = Math.min(start + 1, length);
            while (isWord() && end < length && sortAt(end) == sort) {
                end++;
            }
            isGlued = behindWord && isWord() && start == behind;
        }

        private boolean isWord() {
            return sort == LETTERS || sort == DIGITS;
        }

        private int byteAt(int place) {
            return place >= 0 && place < length && place < MOST_BYTES ? tape[place] : AT_END;
        }

        private int sortAt(int place) {
            int sign = byteAt(place);
            if (within(sign, 'a', 'z')) {
                return LETTERS;
            }
            return within(sign, '0', '9') ? DIGITS : sign;
        }

        /** The word or sign looked at is the FAULT, unless one was met ahead of it. */
        private void meetsFault() {
            if (fault == NO_FAULT) {
                fault = start;
            }
        }

        private boolean isSign(int sign) {
            return fault == NO_FAULT && sort == sign;
        }

        private void puts(int word) {
            if (size < MOST_BYTES) {
                code[size] = word;
                size++;
            }
        }

        private void readKey() {
            if (spells("toll")) {
                key = Laws.TOLL;
            } else if (spells("pull")) {
                key = Laws.PULL;
            } else if (spells("fine")) {
                key = Laws.FINE;
            } else {
                meetsFault();
                return;
            }
            goAhead();
        }

        private boolean spells(String word) {
            if (sort != LETTERS || end - start != word.length()) {
                return false;
            }
            for (int i = 0; i < word.length(); i++) {
                if (byteAt(start + i) != word.charAt(i)) {
                    return false;
                }
            }
            return true;
        }

        private void readOr(int open, int nots) {
            readAnd(open, nots);
            for (int i = 0; i < MOST_BYTES && isSign('|'); i++) {
                goAhead();
                readAnd(open, nots);
                puts(-'|');
            }
        }

        private void readAnd(int open, int nots) {
            readTest(open, nots);
            for (int i = 0; i < MOST_BYTES && isSign('&'); i++) {
                goAhead();
                readTest(open, nots);
                puts(-'&');
            }
        }

        private void readTest(int open, int nots) {
            readSum(open, nots);
            if (isSign('<') || isSign('=') || isSign('>')) {
                int sign = sort;
                goAhead();
                readSum(open, nots);
                puts(-sign);
            }
        }

        private void readSum(int open, int nots) {
            readTerm(open, nots);
            for (int i = 0; i < MOST_BYTES && (isSign('+') || isSign('-')); i++) {
                int sign = sort;
                goAhead();
                readTerm(open, nots);
                puts(-sign);
            }
        }

        private void readTerm(int open, int nots) {
            readPiece(open, nots);
            for (int i = 0; i < MOST_BYTES && (isSign('*') || isSign('/')); i++) {
                int sign = sort;
                goAhead();
                readPiece(open, nots);
                puts(-sign);
            }
        }

        private void readPiece(int open, int nots) {
            if (fault != NO_FAULT) {
                return;
            }
            if (sort == DIGITS && !isGlued) {
                readNumber();
            } else if (sort == LETTERS && !isGlued) {
                readName();
            } else if (sort == '!' && nots < MOST_OPEN) {
                goAhead();
                readPiece(open, nots + 1);
                puts(-'!');
            } else if (sort == '(' && open < MOST_OPEN) {
                goAhead();
                readOr(open + 1, nots);
                readClosing();
            } else {
                meetsFault();
            }
        }

        private void readClosing() {
            if (isSign(')')) {
                goAhead();
            } else {
                meetsFault();
            }
        }

        private void readNumber() {
            if (end - start > MOST_DIGITS) {
                meetsFault();
                return;
            }
            int number = 0;
            for (int place = start; place < end; place++) {
                number = number * 10 + (byteAt(place) - '0');
            }
            puts(number);
            pieces++;
            goAhead();
        }

        private void readName() {
            int name = name();
            if (name == NO_NAME) {
                meetsFault();
                return;
            }
            puts(-1 - name);
            pieces++;
            goAhead();
        }

        private int name() {
            for (int i = 0; i < Laws.NAMES; i++) {
                int at = key * Laws.NAMES + i;
                if (end - start == 1 && within(at, 0, NAMES_BY_KEY.length - 1) && byteAt(start) == NAMES_BY_KEY[at]) {
                    return i;
                }
            }
            return NO_NAME;
        }
    }

    /** A SHEET: places of both sorts are kept as ints, for floats are whole numbers too. */
    private static final class Sheet {
        static final int MISSING = -1;
        static final int SHORTS = 0;
        static final int FLOATS = 1;
        /** Neither a short nor a float is so low. */
        static final int NO_NUMBER = Integer.MIN_VALUE;

        private int sort = MISSING;
        private int size = 0;
        private final int[] places = new int[MOST_PLACES];

        void becomesNew(int newSort, int newSize) {
            sort = newSort;
            size = held(newSize, 0, MOST_PLACES);
            for (int i = 0; i < MOST_PLACES; i++) {
                places[i] = 0;
            }
        }

        void become(Sheet other) {
            sort = other.sort;
            size = other.size;
            System.arraycopy(other.places, 0, places, 0, MOST_PLACES);
        }

        boolean isMissing() {
            return sort == MISSING;
        }

        boolean hasPlace(int place) {
            return within(place, 0, size - 1);
        }

        boolean hasPlaces(int from, int many) {
            return within(many, 0, size) && within(from, 0, size - many);
        }

        boolean isNumber(int place) {
            return hasPlace(place) && places[place] != NO_NUMBER;
        }
    }

    /** A SLOT: what thing it holds, and that thing as it was when it was laid there. */
    private static final class Slot {
        static final int NO_THING = 0;
        static final int LOAD = 1;
        static final int SHEET = 2;
        static final int NUMBER = 3;

        private int thing = NO_THING;
        private int kind = 0;
        private int weight = 0;
        private int number = 0;
        private final Sheet row = new Sheet();
    }
}
