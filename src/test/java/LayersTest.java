/** Promises 1 to 8: a new object; layers told, placed, loaded and lifted. */
public final class LayersTest {
    private static final int MIN = Integer.MIN_VALUE;
    private static final int MAX = Integer.MAX_VALUE;

    public static void main(String[] args) {
        promise1NewObject();
        promise2Layer();
        promise3Weight();
        promise4Shift();
        promise5Next();
        promise6PlaceWithoutFaults();
        promise6RowsWithFewestMisfits();
        promise6LowestRowsOfSeveral();
        promise6OnlyKnownFaultsCount();
        promise6Refused();
        promise7Load();
        promise8Lift();
        Check.finish();
    }

    private static void promise1NewObject() {
        Crossbarry x = new Crossbarry();
        Check.due("hour at first", x.hour(), 0);
        Check.index("no layer at first", () -> x.tileOf(0));
        for (int tile = 0; tile < 6; tile++) {
            Check.due("wear at first", x.wear(tile), 0);
            Check.due("share at first", x.share(tile), 0f);
            for (int what = 0; what < 5; what++) {
                Check.due("first cell at first", x.cell(tile, 0, 0, what), 0);
                Check.due("last cell at first", x.cell(tile, 7, 15, what), 0);
            }
            Check.due("step and top at first", x.converter(tile, 1, 127), 1127);
            Check.due("offset at first", x.offset(tile, 15, 0), 0);
            Check.due("calibrated at first", x.calibrate(tile, false), false);
            Check.due("converters at first", x.converters(tile, 4), 4);
        }
        Check.due("drift at first", x.drift(0), 0);
        Check.due("endurance at first", x.endurance(1000), 1000);
        Check.due("NONE", Crossbarry.NONE, -1);
        x.layer(1, 1);
        Check.index("objects share nothing", () -> new Crossbarry().tileOf(0));
    }

    private static void promise2Layer() {
        Crossbarry x = new Crossbarry();
        int[] bad = {MIN, -1, 0, 9, MAX};
        for (int inputs : bad) {
            Check.argument("layer of " + inputs + " inputs", () -> x.layer(inputs, 1));
        }
        int[] badOutputs = {MIN, -1, 0, 5, MAX};
        for (int outputs : badOutputs) {
            Check.argument("layer of " + outputs + " outputs", () -> x.layer(1, outputs));
        }
        for (int number = 0; number < 6; number++) {
            Check.due("layer", x.layer(number + 1, 1 + number % 4), number);
        }
        Check.index("input beyond", () -> x.weight(1, 2, 0, 1));
        Check.due("input within", x.weight(1, 1, 1, 1), 0);
        Check.state("a seventh layer", () -> x.layer(1, 1));
        Check.argument("a seventh layer, and out of range", () -> x.layer(0, 1));
        Check.argument("a seventh layer, and out of range", () -> x.layer(8, 5));
        Check.index("no seventh layer", () -> x.tileOf(6));
        Crossbarry y = new Crossbarry();
        Check.due("the largest layer", y.layer(8, 4), 0);
        Check.due("the smallest layer", y.layer(1, 1), 1);
    }

    private static void promise3Weight() {
        Crossbarry x = new Crossbarry();
        x.layer(3, 2);
        Check.due("weight at first", x.weight(0, 2, 1, 255), 0);
        Check.due("weight before", x.weight(0, 2, 1, -255), 255);
        Check.due("weight before", x.weight(0, 2, 1, 0), -255);
        Check.due("weight of another", x.weight(0, 1, 1, 7), 0);
        Check.due("weight of another", x.weight(0, 2, 0, 9), 0);
        Check.due("ideal by weights", x.ideal(0, 0x030201L, 1), 14);
        Check.index("no layer", () -> x.weight(1, 0, 0, 0));
        Check.index("no layer", () -> x.weight(-1, 0, 0, 0));
        Check.index("no layer", () -> x.weight(MAX, 0, 0, 999));
        Check.index("no input", () -> x.weight(0, 3, 0, 0));
        Check.index("no input", () -> x.weight(0, -1, 0, 0));
        Check.index("no output", () -> x.weight(0, 0, 2, 0));
        Check.index("no output, and weight out of range", () -> x.weight(0, 0, -1, 256));
        Check.argument("weight too great", () -> x.weight(0, 1, 1, 256));
        Check.argument("weight too small", () -> x.weight(0, 1, 1, -256));
        Check.argument("weight too small", () -> x.weight(0, 1, 1, MIN));
        Check.due("refused weights change nothing", x.weight(0, 1, 1, 7), 7);
        x.place(0, 0);
        long wear = x.wear(0);
        x.weight(0, 1, 1, 8);
        Check.due("cells do not change", x.cell(0, 1, 4, 0), 7);
        Check.due("cells do not change", x.wear(0), wear);
        Check.due("no longer true", x.isTrue(0), false);
    }

    private static void promise4Shift() {
        Crossbarry x = new Crossbarry();
        x.layer(1, 1);
        Check.due("shift at first", x.shift(0, 20), 0);
        Check.due("shift before", x.shift(0, 0), 20);
        Check.due("shift before", x.shift(0, 3), 0);
        Check.index("no layer", () -> x.shift(1, 0));
        Check.index("no layer, and shift out of range", () -> x.shift(-1, 21));
        Check.argument("shift too great", () -> x.shift(0, 21));
        Check.argument("shift too small", () -> x.shift(0, -1));
        Check.argument("shift too small", () -> x.shift(0, MIN));
        Check.due("refused shifts change nothing", x.shift(0, 3), 3);
    }

    private static void promise5Next() {
        Crossbarry x = new Crossbarry();
        x.layer(2, 3);
        x.layer(2, 1);
        x.layer(3, 1);
        x.layer(8, 4);
        Check.due("next at first", x.next(0, 2), -1);
        Check.due("next before", x.next(0, 3), 2);
        Check.due("next before", x.next(0, -1), 3);
        Check.due("next before", x.next(0, 2), -1);
        Check.due("two layers with the same next", x.next(1, 2), -1);
        Check.index("no layer", () -> x.next(4, -1));
        Check.index("no layer", () -> x.next(-1, 2));
        Check.index("no layer of either", () -> x.next(-1, -1));
        Check.index("no next layer", () -> x.next(0, 4));
        Check.index("no next layer", () -> x.next(3, -2));
        Check.index("no next layer", () -> x.next(0, MAX));
        Check.argument("next is the same", () -> x.next(2, 2));
        Check.argument("next is below", () -> x.next(2, 0));
        Check.argument("next has fewer inputs", () -> x.next(0, 1));
        Check.due("refused nexts change nothing", x.next(0, 2), 2);
        Check.due("refused nexts change nothing", x.next(2, 3), -1);
    }

    private static void promise6PlaceWithoutFaults() {
        Crossbarry x = new Crossbarry();
        x.layer(2, 2);
        x.weight(0, 0, 0, 0x2F);
        x.weight(0, 0, 1, -0xF2);
        x.weight(0, 1, 0, -1);
        x.weight(0, 1, 1, 16);
        Check.due("no write failed", x.place(0, 3), 0);
        Check.due("tile", x.tileOf(0), 3);
        int[] first = {15, 2, 0, 0, 0, 0, 2, 15, 0};
        int[] second = {0, 0, 1, 0, 0, 1, 0, 0, 0};
        for (int column = 0; column < first.length; column++) {
            Check.due("row 0, column " + column, x.cell(3, 0, column, 0), first[column]);
            Check.due("its wear", x.cell(3, 0, column, 2), first[column]);
            Check.due("row 1, column " + column, x.cell(3, 1, column, 0), second[column]);
        }
        Check.due("true", x.isTrue(0), true);
        Check.due("all wear", x.wear(3), 36);
    }

    /** Makes cells of tile 0 known to be stuck at 0: column 0 of the rows given. */
    private static Crossbarry withKnownFaults(int... rows) {
        Crossbarry x = new Crossbarry();
        for (int row : rows) {
            x.stick(0, row, 0, 0);
        }
        x.layer(8, 1);
        for (int input = 0; input < 8; input++) {
            x.weight(0, input, 0, 1);
        }
        Check.due("writes to stuck cells fail", x.place(0, 0), rows.length);
        x.lift(0);
        return x;
    }

    private static void promise6RowsWithFewestMisfits() {
        Crossbarry x = withKnownFaults(0, 1, 3);
        x.layer(3, 1);
        x.weight(1, 0, 0, 5);
        x.weight(1, 2, 0, 5);
        Check.due("input 1 needs 0 and takes the first faulty row", x.place(1, 0), 0);
        Check.due("row of input 0", x.rowOf(1, 0), 2);
        Check.due("row of input 1", x.rowOf(1, 1), 0);
        Check.due("row of input 2", x.rowOf(1, 2), 4);
        Check.due("true", x.isTrue(1), true);
    }

    private static void promise6LowestRowsOfSeveral() {
        // Six of eight rows are faulty for any input but the last two, which need 0 there.
        Crossbarry x = withKnownFaults(0, 2, 3, 5, 6, 7);
        x.layer(4, 1);
        x.weight(1, 0, 0, 1);
        x.weight(1, 1, 0, 1);
        x.weight(1, 2, 0, 1);
        Check.due("one input must misfit", x.place(1, 0), 1);
        // Input 0 takes the lowest row although it misfits there, as 1 and 2 then fit.
        Check.due("row of input 0", x.rowOf(1, 0), 0);
        Check.due("row of input 1", x.rowOf(1, 1), 1);
        Check.due("row of input 2", x.rowOf(1, 2), 4);
        Check.due("row of input 3", x.rowOf(1, 3), 2);
        Check.due("not true", x.isTrue(1), false);
    }

    private static void promise6OnlyKnownFaultsCount() {
        Crossbarry x = new Crossbarry();
        x.stick(0, 0, 0, 3);
        x.stick(0, 1, 0, 5);
        x.layer(1, 1);
        x.weight(0, 0, 0, 5);
        Check.due("an unknown fault is no misfit", x.place(0, 0), 1);
        Check.due("row", x.rowOf(0, 0), 0);
        Check.due("known now", x.cell(0, 0, 0, 4), 1);
        x.lift(0);
        Check.due("the known fault is avoided", x.place(0, 0), 0);
        Check.due("row", x.rowOf(0, 0), 1);
        Check.due("stuck at what is wanted: not known", x.cell(0, 1, 0, 4), 0);
        x.lift(0);
        x.weight(0, 0, 0, 3);
        Check.due("a known fault that fits is no misfit", x.place(0, 0), 0);
        Check.due("row", x.rowOf(0, 0), 0);
        Check.due("still known", x.cell(0, 0, 0, 4), 1);
    }

    private static void promise6Refused() {
        Crossbarry x = new Crossbarry();
        x.layer(1, 1);
        x.layer(1, 1);
        Check.index("no layer", () -> x.place(2, 0));
        Check.index("no layer", () -> x.place(-1, 0));
        Check.index("no tile", () -> x.place(0, 6));
        Check.index("no tile", () -> x.place(0, -1));
        x.weight(0, 0, 0, 3);
        x.place(0, 0);
        x.weight(0, 0, 0, 4);
        x.weight(1, 0, 0, 9);
        Check.state("the layer is placed there", () -> x.place(0, 0));
        Check.state("the layer is placed elsewhere", () -> x.place(0, 1));
        Check.state("the tile has one", () -> x.place(1, 0));
        Check.index("placed, and no such tile", () -> x.place(0, 6));
        Check.due("refused places change nothing", x.cell(0, 0, 0, 0), 3);
        Check.due("refused places change nothing", x.cell(1, 0, 0, 0), 0);
        Check.due("refused places change nothing", x.tileOf(1), -1);
        Check.due("the other tile is free", x.place(1, 1), 0);
    }

    private static void promise7Load() {
        Crossbarry x = new Crossbarry();
        x.layer(2, 1);
        Check.state("not placed", () -> x.load(0));
        Check.index("no layer", () -> x.load(1));
        Check.index("no layer", () -> x.load(-1));
        x.place(0, 5);
        x.weight(0, 1, 0, 20);
        x.stick(5, 0, 3, 2);
        x.stick(5, 1, 0, 4);
        Check.due("one write failed", x.load(0), 1);
        Check.due("written", x.cell(5, 1, 1, 0), 1);
        Check.due("stuck at what is wanted", x.cell(5, 1, 0, 2), 0);
        Check.due("failed with 16 pulses", x.cell(5, 0, 3, 2), 16);
        Check.due("state stays", x.cell(5, 0, 3, 0), 2);
        Check.due("known", x.cell(5, 0, 3, 4), 1);
        Check.due("not known", x.cell(5, 1, 0, 4), 0);
        Check.due("the rows stay", x.rowOf(0, 0), 0);
        Check.due("it fails again", x.load(0), 1);
        Check.due("with 16 pulses more", x.wear(5), 33);
        x.weight(0, 1, 0, -17);
        Check.due("from plus to minus", x.load(0), 2);
        Check.due("low plus is stuck", x.cell(5, 1, 0, 0), 4);
        Check.due("high plus", x.cell(5, 1, 1, 0), 0);
        Check.due("low minus", x.cell(5, 1, 2, 0), 1);
        Check.due("high minus", x.cell(5, 1, 3, 0), 1);
    }

    private static void promise8Lift() {
        Crossbarry x = new Crossbarry();
        x.layer(1, 1);
        x.layer(1, 1);
        Check.state("not placed", () -> x.lift(0));
        Check.index("no layer", () -> x.lift(2));
        Check.index("no layer", () -> x.lift(-1));
        x.weight(0, 0, 0, 6);
        x.place(0, 4);
        Check.due("tile before", x.lift(0), 4);
        Check.due("no tile", x.tileOf(0), -1);
        Check.due("no row", x.rowOf(0, 0), -1);
        Check.due("cells stay", x.cell(4, 0, 0, 0), 6);
        Check.due("wear stays", x.wear(4), 6);
        Check.due("not true", x.isTrue(0), false);
        Check.state("lifted twice", () -> x.lift(0));
        Check.state("not placed", () -> x.load(0));
        Check.due("the tile is free", x.place(1, 4), 0);
        Check.due("its cell was written down", x.cell(4, 0, 0, 2), 9);
        Check.due("the layer may be placed elsewhere", x.place(0, 0), 0);
    }
}
