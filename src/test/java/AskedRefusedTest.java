/**
 * Promises 18 to 33: what each call takes and refuses, on either side of each boundary, with which exception, and that
 * neither a refused call nor one that is taken changes anything. Above each test stands the sentence that it looks at.
 */
public final class AskedRefusedTest {
    private static final int[] INPUTS = {2, 3, 8, 5};
    private static final int[] OUTPUTS = {1, 2, 4, 3};

    public static void main(String[] args) {
        allElseIsAskedWhichChangesNothing();
        promise18NoSuchTile();
        promise18NoSuchRow();
        promise18NoSuchColumn();
        promise18WhatOutOfRange();
        promise19NoSuchLayer();
        promise19NoSuchInput();
        promise19NotPlaced();
        promise20NoSuchLayer();
        promise20Without();
        promise21NoSuchLayerOrTile();
        promise22NoSuchLayerOrTile();
        promise22MoreThan4Inputs();
        promise23NoSuchLayer();
        promise24NoSuchLayer();
        promise24NoSuchOutput();
        promise24NotPlaced();
        promise25NoSuchLayer();
        promise25NoSuchOutput();
        promise26NoSuchLayer();
        promise26NoSuchOutput();
        promise26NotPlaced();
        promise27NoSuchLayer();
        promise27NotPlaced();
        promise28NoSuchLayer();
        promise28WhereverLayersArePlaced();
        promise29NoSuchLayer();
        promise29ManyOutOfRange();
        promise29NotPlaced();
        promise30NoSuchLayer();
        promise30ManyOutOfRange();
        promise30NotPlaced();
        promise31NoSuchTile();
        promise32NoSuchTile();
        promise33TheHourIsThere();
        Check.finish();
    }

    /** Layers 0, 2 and 3 are placed, and layer 1, of 3 inputs and 2 outputs, too. */
    private static void allPlaced(Crossbarry x) {
        Busy.machine(x);
        x.place(1, 4);
    }

    /** "all else is asked, which changes nothing". */
    private static void allElseIsAskedWhichChangesNothing() {
        for (int what = 0; what < 5; what++) {
            int asked = what;
            Twins.unchanged("cell", Busy::machine, x -> x.cell(0, 0, 0, asked));
        }
        for (int number = 0; number < 4; number++) {
            int layer = number;
            Twins.unchanged("rowOf", Busy::machine, x -> x.rowOf(layer, 1));
            Twins.unchanged("tileOf", Busy::machine, x -> x.tileOf(layer));
            for (int tile = 0; tile < 6; tile++) {
                int on = tile;
                Twins.unchanged("misfits", Busy::machine, x -> x.misfits(layer, on));
            }
            Twins.unchanged("isTrue", Busy::machine, x -> x.isTrue(layer));
            Twins.unchanged("answer", AskedRefusedTest::allPlaced, x -> x.answer(layer, -1, 0));
            Twins.unchanged("ideal", Busy::machine, x -> x.ideal(layer, -1, 0));
            Twins.unchanged("bound", AskedRefusedTest::allPlaced, x -> x.bound(layer, 0, false));
            Twins.unchanged("bound", AskedRefusedTest::allPlaced, x -> x.bound(layer, 0, true));
            Twins.unchanged("run", AskedRefusedTest::allPlaced, x -> x.run(layer, -1));
            Twins.unchanged("runIdeal", Busy::machine, x -> x.runIdeal(layer, -1));
            Twins.unchanged("cycles", AskedRefusedTest::allPlaced, x -> x.cycles(layer, 5));
            Twins.unchanged("cyclesAnew", AskedRefusedTest::allPlaced, x -> x.cyclesAnew(layer, 5));
        }
        Twins.unchanged("misfitsAnew", Busy::machine, x -> x.misfitsAnew(0, 0));
        Twins.unchanged("misfitsAnew", Busy::machine, x -> x.misfitsAnew(1, 5));
        for (int tile = 0; tile < 6; tile++) {
            int of = tile;
            Twins.unchanged("wear", Busy::machine, x -> x.wear(of));
            Twins.unchanged("share", Busy::machine, x -> x.share(of));
        }
        Twins.unchanged("hour", Busy::machine, Crossbarry::hour);
    }

    /** "IndexOutOfBoundsException if there is no such tile, row or column, or what is out of range". */
    private static void promise18NoSuchTile() {
        Twins.range("tile", Busy::machine, 0, 5, Twins.INDEX, (x, tile) -> x.cell(tile, 0, 0, 0));
        Twins.range("tile", Busy::machine, 0, 5, Twins.INDEX, (x, tile) -> x.cell(tile, 7, 15, 4));
    }

    /** "row: 0 to 7". */
    private static void promise18NoSuchRow() {
        for (int tile = 0; tile < 6; tile += 5) {
            int of = tile;
            Twins.range("row", Busy::machine, 0, 7, Twins.INDEX, (x, row) -> x.cell(of, row, 0, 1));
            Twins.range("row", Busy::machine, 0, 7, Twins.INDEX, (x, row) -> x.cell(of, row, 15, 3));
        }
    }

    /** "column: 0 to 15". */
    private static void promise18NoSuchColumn() {
        for (int row = 0; row < 8; row++) {
            int of = row;
            Twins.range("column", Busy::machine, 0, 15, Twins.INDEX, (x, column) -> x.cell(0, of, column, 2));
        }
    }

    /** "what: 0 its state, 1 what it conducts now, 2 its wear, 3 whether it is stuck, 4 whether that is known". */
    private static void promise18WhatOutOfRange() {
        Twins.range("what", Busy::machine, 0, 4, Twins.INDEX, (x, what) -> x.cell(0, 0, 0, what));
        Twins.range("what", Busy::machine, 0, 4, Twins.INDEX, (x, what) -> x.cell(5, 7, 15, what));
        Crossbarry x = Twins.made(Busy::machine);
        int[][] due = {{7, 6, 7, 0, 0}, {9, 9, 16, 1, 1}, {6, 6, 0, 1, 0}};
        for (int what = 0; what < 5; what++) {
            Check.due("a sound cell, " + what, x.cell(0, 0, 0, what), due[0][what]);
            Check.due("one known to be stuck, " + what, x.cell(5, 7, 15, what), due[1][what]);
            Check.due("one stuck, and not known, " + what, x.cell(3, 2, 4, what), due[2][what]);
        }
    }

    /** "IndexOutOfBoundsException if there is no such layer or input". */
    private static void promise19NoSuchLayer() {
        Twins.range("layer", Busy::machine, 0, 3, Twins.INDEX, (x, layer) -> x.rowOf(layer, 0));
        Twins.range("layer, full", Busy::full, 0, 5, Twins.INDEX, (x, layer) -> x.rowOf(layer, 0));
        Twins.refused("none is there", Twins.INDEX, Busy::fresh, x -> x.rowOf(0, 0));
    }

    private static void promise19NoSuchInput() {
        for (int number = 0; number < 4; number++) {
            int layer = number;
            Twins.range("input", Busy::machine, 0, INPUTS[layer] - 1, Twins.INDEX, (x, input) -> x.rowOf(layer, input));
        }
    }

    /** "NONE if the layer is not placed". */
    private static void promise19NotPlaced() {
        Crossbarry x = Twins.made(Busy::machine);
        for (int input = 0; input < 8; input++) {
            Check.due("placed", x.rowOf(2, input), input);
        }
        Check.due("never placed", x.rowOf(1, 0), -1);
        Check.due("never placed", x.rowOf(1, 2), -1);
        x.lift(2);
        for (int input = 0; input < 8; input++) {
            Check.due("lifted", x.rowOf(2, input), -1);
        }
        Check.index("no input of one not placed", () -> x.rowOf(1, 3));
    }

    /** "IndexOutOfBoundsException if there is no such layer". */
    private static void promise20NoSuchLayer() {
        Twins.range("layer", Busy::machine, 0, 3, Twins.INDEX, (x, layer) -> x.tileOf(layer));
        Twins.range("layer, full", Busy::full, 0, 5, Twins.INDEX, (x, layer) -> x.tileOf(layer));
        Twins.refused("none is there", Twins.INDEX, Busy::fresh, x -> x.tileOf(0));
    }

    /** "the tile; NONE without". */
    private static void promise20Without() {
        Crossbarry x = Twins.made(Busy::machine);
        Check.due("the first tile", x.tileOf(0), 0);
        Check.due("never placed", x.tileOf(1), -1);
        Check.due("the last tile", x.tileOf(2), 5);
        x.lift(0);
        Check.due("lifted", x.tileOf(0), -1);
        Check.due("another stays", x.tileOf(2), 5);
    }

    /** "IndexOutOfBoundsException if there is no such layer or tile". */
    private static void promise21NoSuchLayerOrTile() {
        Twins.range("layer", Busy::machine, 0, 3, Twins.INDEX, (x, layer) -> x.misfits(layer, 5));
        Twins.range("layer, full", Busy::full, 0, 5, Twins.INDEX, (x, layer) -> x.misfits(layer, 0));
        Twins.refused("none is there", Twins.INDEX, Busy::fresh, x -> x.misfits(0, 0));
        for (int number = 0; number < 4; number++) {
            int layer = number;
            Twins.range("tile", Busy::machine, 0, 5, Twins.INDEX, (x, tile) -> x.misfits(layer, tile));
        }
    }

    /** "IndexOutOfBoundsException if there is no such layer or tile". */
    private static void promise22NoSuchLayerOrTile() {
        Twins.range("layer", Busy::machine, 0, 1, Twins.INDEX, (x, layer) -> x.misfitsAnew(layer == 2 ? 4 : layer, 5));
        Twins.refused("none is there", Twins.INDEX, Busy::fresh, x -> x.misfitsAnew(0, 0));
        for (int number = 0; number < 2; number++) {
            int layer = number;
            Twins.range("tile", Busy::machine, 0, 5, Twins.INDEX, (x, tile) -> x.misfitsAnew(layer, tile));
        }
    }

    /** "IllegalStateException if it has more than 4 inputs". */
    private static void promise22MoreThan4Inputs() {
        for (int inputs = 1; inputs <= 8; inputs++) {
            int many = inputs;
            Twins.Calls one = x -> x.layer(many, 4);
            if (inputs <= 4) {
                Twins.taken(inputs + " inputs", one, x -> x.misfitsAnew(0, 0));
            } else {
                Twins.refused(inputs + " inputs", Twins.STATE, one, x -> x.misfitsAnew(0, 0));
                Twins.refused(inputs + " inputs, and no tile", Twins.INDEX, one, x -> x.misfitsAnew(0, 6));
                Twins.refused(inputs + " inputs, and no tile", Twins.INDEX, one, x -> x.misfitsAnew(0, -1));
            }
        }
        Twins.refused("8 inputs, placed there", Twins.STATE, Busy::machine, x -> x.misfitsAnew(2, 5));
        Twins.refused("5 inputs, placed there", Twins.STATE, Busy::machine, x -> x.misfitsAnew(3, 2));
    }

    /** "IndexOutOfBoundsException if there is no such layer". */
    private static void promise23NoSuchLayer() {
        Twins.range("layer", Busy::machine, 0, 3, Twins.INDEX, (x, layer) -> x.isTrue(layer));
        Twins.range("layer, full", Busy::full, 0, 5, Twins.INDEX, (x, layer) -> x.isTrue(layer));
        Twins.refused("none is there", Twins.INDEX, Busy::fresh, x -> x.isTrue(0));
    }

    /** "IndexOutOfBoundsException if there is no such layer or output". */
    private static void promise24NoSuchLayer() {
        Twins.range("layer", AskedRefusedTest::allPlaced, 0, 3, Twins.INDEX, (x, layer) -> x.answer(layer, 1, 0));
        Twins.refused("none is there", Twins.INDEX, Busy::fresh, x -> x.answer(0, 1, 0));
    }

    private static void promise24NoSuchOutput() {
        for (int number = 0; number < 4; number++) {
            int layer = number;
            Twins.range("output", AskedRefusedTest::allPlaced, 0, OUTPUTS[layer] - 1, Twins.INDEX,
                    (x, output) -> x.answer(layer, 1, output));
        }
    }

    /** "IllegalStateException if the layer is not placed". */
    private static void promise24NotPlaced() {
        Twins.refused("never placed", Twins.STATE, Busy::machine, x -> x.answer(1, 1, 0));
        Twins.refused("lifted", Twins.STATE, AskedRefusedTest::allLifted, x -> x.answer(0, 1, 0));
        Twins.refused("lifted", Twins.STATE, AskedRefusedTest::allLifted, x -> x.answer(2, 1, 3));
        Twins.refused("not placed, and no output", Twins.INDEX, Busy::machine, x -> x.answer(1, 1, 2));
        Twins.refused("not placed, and no output", Twins.INDEX, Busy::machine, x -> x.answer(1, 1, -1));
        Twins.refused("not placed, and no layer", Twins.INDEX, Busy::machine, x -> x.answer(4, 1, 0));
    }

    private static void allLifted(Crossbarry x) {
        Busy.machine(x);
        x.lift(0);
        x.lift(2);
        x.lift(3);
    }

    /** "IndexOutOfBoundsException if there is no such layer or output". */
    private static void promise25NoSuchLayer() {
        Twins.range("layer", Busy::machine, 0, 3, Twins.INDEX, (x, layer) -> x.ideal(layer, 1, 0));
        Twins.range("layer, full", Busy::full, 0, 5, Twins.INDEX, (x, layer) -> x.ideal(layer, 1, 0));
        Twins.refused("none is there", Twins.INDEX, Busy::fresh, x -> x.ideal(0, 1, 0));
    }

    private static void promise25NoSuchOutput() {
        for (int number = 0; number < 4; number++) {
            int layer = number;
            Twins.range("output", Busy::machine, 0, OUTPUTS[layer] - 1, Twins.INDEX,
                    (x, output) -> x.ideal(layer, 1, output));
        }
        Twins.taken("not placed", Busy::machine, x -> x.ideal(1, 1, 1));
        Twins.taken("lifted", AskedRefusedTest::allLifted, x -> x.ideal(2, 1, 3));
    }

    /** "IndexOutOfBoundsException if there is no such layer or output". */
    private static void promise26NoSuchLayer() {
        Twins.range("layer", AskedRefusedTest::allPlaced, 0, 3, Twins.INDEX, (x, layer) -> x.bound(layer, 0, true));
        Twins.refused("none is there", Twins.INDEX, Busy::fresh, x -> x.bound(0, 0, false));
    }

    private static void promise26NoSuchOutput() {
        for (int number = 0; number < 4; number++) {
            int layer = number;
            Twins.range("output", AskedRefusedTest::allPlaced, 0, OUTPUTS[layer] - 1, Twins.INDEX,
                    (x, output) -> x.bound(layer, output, true));
            Twins.range("output", AskedRefusedTest::allPlaced, 0, OUTPUTS[layer] - 1, Twins.INDEX,
                    (x, output) -> x.bound(layer, output, false));
        }
    }

    /** "IllegalStateException if the layer is not placed". */
    private static void promise26NotPlaced() {
        for (boolean isUpper : new boolean[] {false, true}) {
            Twins.refused("never placed", Twins.STATE, Busy::machine, x -> x.bound(1, 0, isUpper));
            Twins.refused("lifted", Twins.STATE, AskedRefusedTest::allLifted, x -> x.bound(0, 0, isUpper));
            Twins.refused("lifted", Twins.STATE, AskedRefusedTest::allLifted, x -> x.bound(2, 3, isUpper));
            Twins.refused("not placed, and no output", Twins.INDEX, Busy::machine, x -> x.bound(1, 2, isUpper));
            Twins.refused("not placed, and no output", Twins.INDEX, Busy::machine, x -> x.bound(1, -1, isUpper));
        }
    }

    /** "IndexOutOfBoundsException if there is no such layer". */
    private static void promise27NoSuchLayer() {
        Twins.range("layer", AskedRefusedTest::allPlaced, 0, 3, Twins.INDEX, (x, layer) -> x.run(layer, 1));
        Twins.refused("none is there", Twins.INDEX, Busy::fresh, x -> x.run(0, 1));
    }

    /** A chain of three layers, those of them placed whose bits are set. */
    private static Twins.Calls chain(int placed) {
        return x -> {
            for (int layer = 0; layer < 3; layer++) {
                x.layer(1, 1);
                x.weight(layer, 0, 0, 1);
            }
            x.next(0, 1);
            x.next(1, 2);
            for (int layer = 0; layer < 3; layer++) {
                if ((placed >> layer & 1) == 1) {
                    x.place(layer, 5 - layer);
                }
            }
        };
    }

    /** "IllegalStateException if a layer of the chain from it on is not placed". */
    private static void promise27NotPlaced() {
        dueNotPlaced("run", (x, layer) -> x.run(layer, 1));
    }

    /** A call is taken from a layer on, when that and all behind it are placed. */
    private static void dueNotPlaced(String what, Twins.CallWith call) {
        for (int placed = 0; placed < 8; placed++) {
            for (int first = 0; first < 3; first++) {
                int layer = first;
                boolean areAllPlaced = (placed >> first) == (7 >> first);
                String text = what + " from " + layer + ", placed " + Integer.toBinaryString(placed);
                if (areAllPlaced) {
                    Twins.taken(text, chain(placed), x -> call.on(x, layer));
                } else {
                    Twins.refused(text, Twins.STATE, chain(placed), x -> call.on(x, layer));
                }
            }
        }
        Twins.Calls lifted = x -> {
            chain(7).on(x);
            x.lift(2);
        };
        Twins.refused(what + ", the last one is lifted", Twins.STATE, lifted, x -> call.on(x, 0));
        Twins.taken(what + ", no longer in the chain", x -> {
            lifted.on(x);
            x.next(1, -1);
        }, x -> call.on(x, 0));
    }

    /** "IndexOutOfBoundsException if there is no such layer". */
    private static void promise28NoSuchLayer() {
        Twins.range("layer", Busy::machine, 0, 3, Twins.INDEX, (x, layer) -> x.runIdeal(layer, 1));
        Twins.range("layer, full", Busy::full, 0, 5, Twins.INDEX, (x, layer) -> x.runIdeal(layer, 1));
        Twins.refused("none is there", Twins.INDEX, Busy::fresh, x -> x.runIdeal(0, 1));
    }

    /** "wherever layers are placed". */
    private static void promise28WhereverLayersArePlaced() {
        for (int placed = 0; placed < 8; placed++) {
            for (int first = 0; first < 3; first++) {
                Check.due("placed " + placed, Twins.made(chain(placed)).runIdeal(first, 77), 77);
            }
        }
    }

    /** "IndexOutOfBoundsException if there is no such layer". */
    private static void promise29NoSuchLayer() {
        Twins.range("layer", AskedRefusedTest::allPlaced, 0, 3, Twins.INDEX, (x, layer) -> x.cycles(layer, 1));
        Twins.refused("none is there", Twins.INDEX, Busy::fresh, x -> x.cycles(0, 1));
        Twins.refused("no layer, and many", Twins.INDEX, Busy::machine, x -> x.cycles(4, 0));
        Twins.refused("no layer, and many", Twins.INDEX, Busy::machine, x -> x.cycles(-1, 1001));
    }

    /** "many: 1 to 1000", "IllegalArgumentException if many is out of range". */
    private static void promise29ManyOutOfRange() {
        for (int number = 0; number < 4; number++) {
            int layer = number;
            Twins.range("many", AskedRefusedTest::allPlaced, 1, 1000, Twins.ARGUMENT, (x, many) -> x.cycles(layer, many));
        }
        Twins.refused("many, and not placed", Twins.ARGUMENT, Busy::machine, x -> x.cycles(1, 0));
        Twins.refused("many, and not placed", Twins.ARGUMENT, Busy::machine, x -> x.cycles(1, 1001));
    }

    /** "IllegalStateException if a layer of the chain from it on is not placed". */
    private static void promise29NotPlaced() {
        dueNotPlaced("cycles of 1", (x, layer) -> x.cycles(layer, 1));
        dueNotPlaced("cycles of 1000", (x, layer) -> x.cycles(layer, 1000));
    }

    /** "IndexOutOfBoundsException if there is no such layer". */
    private static void promise30NoSuchLayer() {
        Twins.range("layer", AskedRefusedTest::allPlaced, 0, 3, Twins.INDEX, (x, layer) -> x.cyclesAnew(layer, 1));
        Twins.refused("none is there", Twins.INDEX, Busy::fresh, x -> x.cyclesAnew(0, 1));
        Twins.refused("no layer, and many", Twins.INDEX, Busy::machine, x -> x.cyclesAnew(4, 0));
        Twins.refused("no layer, and many", Twins.INDEX, Busy::machine, x -> x.cyclesAnew(-1, 1001));
    }

    /** "many: 1 to 1000", "IllegalArgumentException if many is out of range". */
    private static void promise30ManyOutOfRange() {
        for (int number = 0; number < 4; number++) {
            int layer = number;
            Twins.range("many", AskedRefusedTest::allPlaced, 1, 1000, Twins.ARGUMENT,
                    (x, many) -> x.cyclesAnew(layer, many));
        }
        Twins.refused("many, and not placed", Twins.ARGUMENT, Busy::machine, x -> x.cyclesAnew(1, 0));
        Twins.refused("many, and not placed", Twins.ARGUMENT, Busy::machine, x -> x.cyclesAnew(1, 1001));
    }

    /** "IllegalStateException if a layer of the chain from it on is not placed". */
    private static void promise30NotPlaced() {
        dueNotPlaced("cyclesAnew of 1", (x, layer) -> x.cyclesAnew(layer, 1));
        dueNotPlaced("cyclesAnew of 1000", (x, layer) -> x.cyclesAnew(layer, 1000));
    }

    /** "IndexOutOfBoundsException if there is no such tile". */
    private static void promise31NoSuchTile() {
        Twins.range("tile", Busy::machine, 0, 5, Twins.INDEX, (x, tile) -> x.wear(tile));
        Twins.range("tile, new object", Busy::fresh, 0, 5, Twins.INDEX, (x, tile) -> x.wear(tile));
    }

    /** "IndexOutOfBoundsException if there is no such tile". */
    private static void promise32NoSuchTile() {
        Twins.range("tile", Busy::machine, 0, 5, Twins.INDEX, (x, tile) -> x.share(tile));
        Twins.range("tile, new object", Busy::fresh, 0, 5, Twins.INDEX, (x, tile) -> x.share(tile));
    }

    private static void promise33TheHourIsThere() {
        Twins.taken("hour, new object", Busy::fresh, Crossbarry::hour);
        Check.due("hour", Twins.made(Busy::machine).hour(), 3);
    }
}
