import java.util.ArrayList;
import java.util.List;
import java.util.function.Supplier;
import java.util.function.ToIntFunction;

/** All that calls can show of a ferry; seeing it uses up the rows that wait, SLOT 0 and what is ahead of THE IMAGE. */
final class Whole {
    private static final int PLACES = 4;

    private Whole() {
    }

    /** The call is to answer so, and then all is to be as on a ferry made alike on which it was not called. */
    static void stays(String what, Supplier<RopeFerry> made, ToIntFunction<RopeFerry> call, int due) {
        stays(what, made, call, due, made);
    }

    /** The same, where the call uses something up that the other ferry never had. */
    static void stays(String what, Supplier<RopeFerry> made, ToIntFunction<RopeFerry> call, int due,
        Supplier<RopeFerry> alike) {
        RopeFerry x = made.get();
        Due.be(what, call.applyAsInt(x), due);
        Due.row(what + ", what stays", of(x), of(alike.get()));
    }

    static int[] of(RopeFerry x) {
        List<Integer> row = new ArrayList<>();
        world(x, row);
        for (int sheet = 0; sheet < 4; sheet++) {
            row.add(x.reads(sheet));
        }
        for (int slot = 0; slot < 5; slot++) {
            slot(x, slot, row);
        }
        row.add(x.check(Ferries.STEPS_TOLD));
        row.add(x.text());
        row.add(x.fine());
        for (int sheet = 0; sheet < 4; sheet++) {
            row.add(x.lay(0, 2, sheet));
            places(x, 0, row);
        }
        row.add(x.back());
        world(x, row);
        int[] told = new int[row.size()];
        for (int i = 0; i < told.length; i++) {
            told[i] = row.get(i);
        }
        return told;
    }

    /** What an IMAGE keeps, and how many wait. */
    private static void world(RopeFerry x, List<Integer> row) {
        for (int what = 0; what < 8; what++) {
            row.add(x.count(what));
            row.add(x.boat(what));
        }
        for (int what = 0; what < 4; what++) {
            row.add(x.book(what));
        }
        int loads = x.count(0);
        for (int load = 0; load < loads; load++) {
            for (int what = 0; what < 6; what++) {
                row.add(x.told(load, what));
            }
        }
        for (int key = 0; key < 3; key++) {
            row.add(x.why(key));
        }
        int texts = x.count(4);
        for (int text = 0; text < texts; text++) {
            row.add(x.textTold(text, 0));
            row.add(x.textTold(text, 1));
        }
        row.add(x.pull(33));
        row.add(x.fine());
    }

    private static void slot(RopeFerry x, int slot, List<Integer> row) {
        for (int kind = 0; kind < 6; kind++) {
            row.add(x.ask(slot, kind));
        }
        row.add(x.rest(slot, Integer.MAX_VALUE));
        places(x, slot, row);
    }

    private static void places(RopeFerry x, int slot, List<Integer> row) {
        for (int place = 0; place < PLACES; place++) {
            row.add(x.item(slot, place));
        }
    }
}
