import java.util.Arrays;

/**
 * Compares two objects, of which one got a call more, by all that can be told of them. Each part of that
 * is read off two objects of its own: to read all takes more than 512 calls, and what was told can be
 * read by telling it anew alone.
 */
final class Twins {
    static final Class<?> INDEX = IndexOutOfBoundsException.class;
    static final Class<?> ARGUMENT = IllegalArgumentException.class;
    static final Class<?> STATE = IllegalStateException.class;

    /** Calls on an object. */
    interface Calls {
        void on(Crossbarry x);
    }

    /** A call on an object with a value. */
    interface CallWith {
        void on(Crossbarry x, int value);
    }

    private interface Asked {
        long answer();
    }

    private static final int TILE_HALVES = 12;
    static final String TOLD = " what was told";
    static final String PLACED = " where layers are placed";
    static final String FREE = " what is free";
    private static final String[] OTHER_PARTS = {TOLD, PLACED, FREE};
    private static final long REFUSED = Long.MIN_VALUE;

    private Twins() {
    }

    /** The call throws this very exception behind these calls, and nothing has changed by that. */
    static void refused(String what, Class<?> due, Calls before, Calls refused) {
        Check.refused(what, due, () -> refused.on(made(before)));
        dueUnchanged(what, before, x -> {
            try {
                refused.on(x);
            } catch (RuntimeException thrown) {
                // which one it was has been looked at
            }
        });
    }

    /** The call is taken behind these calls. */
    static void taken(String what, Calls before, Calls call) {
        Crossbarry x = made(before);
        String got = "nothing";
        try {
            call.on(x);
        } catch (RuntimeException thrown) {
            got = thrown.getClass().getName();
        }
        Check.due(what + " threw", got, "nothing");
    }

    /** The call is taken behind these calls, and nothing has changed by that. */
    static void unchanged(String what, Calls before, Calls asked) {
        taken(what, before, asked);
        dueUnchanged(what, before, asked);
    }

    /** The call is taken behind these calls, and has changed these parts of what can be told, and no others. */
    static void changed(String what, Calls before, Calls call, String... parts) {
        taken(what, before, call);
        Check.due(what + " changed", changedParts(before, call), String.join("", parts));
    }

    /** A part of what can be told: the rows 0 to 3 of a tile, or the rows 4 to 7. */
    static String cells(int tile, int half) {
        return " cells of tile " + tile + ", half " + half;
    }

    /** The least and the greatest value are taken; those just beyond and far beyond are refused. */
    static void range(String what, Calls before, int least, int greatest, Class<?> due, CallWith call) {
        for (int value : new int[] {least, greatest}) {
            taken(what + ", " + value, before, x -> call.on(x, value));
        }
        for (int value : new int[] {least - 1, greatest + 1, Integer.MIN_VALUE, Integer.MAX_VALUE}) {
            refused(what + ", " + value, due, before, x -> call.on(x, value));
        }
    }

    static Crossbarry made(Calls before) {
        Crossbarry x = new Crossbarry();
        before.on(x);
        return x;
    }

    private static void dueUnchanged(String what, Calls before, Calls further) {
        Check.due(what + " changed", changedParts(before, further), "");
    }

    private static String changedParts(Calls before, Calls further) {
        StringBuilder changed = new StringBuilder();
        for (int part = 0; part < TILE_HALVES + OTHER_PARTS.length; part++) {
            Crossbarry one = made(before);
            Crossbarry other = made(before);
            further.on(other);
            if (!Arrays.equals(read(one, part), read(other, part))) {
                changed.append(part < TILE_HALVES ? cells(part / 2, part % 2) : OTHER_PARTS[part - TILE_HALVES]);
            }
        }
        return changed.toString();
    }

    private static long[] read(Crossbarry x, int part) {
        Reading reading = new Reading(x);
        if (part < TILE_HALVES) {
            reading.readCells(part / 2, part % 2 * 4);
        } else if (part == TILE_HALVES) {
            reading.readWhatWasTold();
        } else if (part == TILE_HALVES + 1) {
            reading.readWhereLayersArePlaced();
        } else {
            reading.readWhatIsFree();
        }
        return Arrays.copyOf(reading.answers, reading.count);
    }

    private static final class Reading {
        private final Crossbarry x;
        private final long[] answers = new long[512];
        private int count = 0;

        Reading(Crossbarry x) {
            this.x = x;
        }

        private void add(Asked asked) {
            long answer = REFUSED;
            try {
                answer = asked.answer();
            } catch (RuntimeException thrown) {
                // that it is refused is an answer too
            }
            answers[count] = answer;
            count++;
        }

        void readCells(int tile, int firstRow) {
            for (int what : new int[] {0, 2, 3, 4}) {
                readCells(tile, firstRow, what);
            }
            // what a cell conducts with a drift of 1 tells the hour of its state
            x.drift(1);
            readCells(tile, firstRow, 1);
        }

        private void readCells(int tile, int firstRow, int what) {
            for (int at = 0; at < 64; at++) {
                int row = firstRow + at / 16;
                int column = at % 16;
                add(() -> x.cell(tile, row, column, what));
            }
        }

        void readWhatWasTold() {
            add(x::hour);
            add(() -> x.drift(0));
            add(() -> x.endurance(1));
            for (int number = 0; number < 6; number++) {
                int k = number;
                add(() -> x.next(k, -1));
                add(() -> x.shift(k, 0));
                add(() -> x.converter(k, 1, 1));
                add(() -> x.converters(k, 1));
                add(() -> x.calibrate(k, true) ? 1 : 0);
                for (int at = 0; at < 32; at++) {
                    int of = at;
                    add(() -> x.weight(k, of / 4, of % 4, 0));
                }
                for (int column = 0; column < 16; column++) {
                    int of = column;
                    add(() -> x.offset(k, of, 0));
                }
            }
        }

        void readWhereLayersArePlaced() {
            for (int number = 0; number < 6; number++) {
                int layer = number;
                add(() -> x.tileOf(layer));
                for (int input = 0; input < 8; input++) {
                    int of = input;
                    add(() -> x.rowOf(layer, of));
                }
            }
        }

        void readWhatIsFree() {
            for (int number = 0; number < 6; number++) {
                int layer = number;
                add(() -> x.lift(layer));
                for (int tile = 0; tile < 6; tile++) {
                    int on = tile;
                    add(() -> Math.min(0, x.place(layer, on)));
                    add(() -> x.lift(layer));
                }
            }
            for (int time = 0; time < 7; time++) {
                add(() -> x.layer(1, 1));
            }
        }
    }
}
