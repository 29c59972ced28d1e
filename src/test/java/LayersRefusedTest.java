/**
 * Promises 1 to 8: what each call takes and refuses, on either side of each boundary, with which exception, and that
 * a refused call changes nothing. Above each test stands the sentence that it looks at.
 */
public final class LayersRefusedTest {
    public static void main(String[] args) {
        promise2Inputs();
        promise2Outputs();
        promise2ThereAreSix();
        promise2FirstOfSeveral();
        promise3NoSuchLayer();
        promise3NoSuchInput();
        promise3NoSuchOutput();
        promise3WeightOutOfRange();
        promise3FirstOfSeveral();
        promise4NoSuchLayer();
        promise4ShiftOutOfRange();
        promise4FirstOfSeveral();
        promise5NoSuchLayer();
        promise5NoSuchNextLayer();
        promise5NoneIsTaken();
        promise5NotAbove();
        promise5FewerInputs();
        promise5FirstOfSeveral();
        promise6NoSuchLayer();
        promise6NoSuchTile();
        promise6LayerIsPlaced();
        promise6TileHasOne();
        promise6FirstOfSeveral();
        promise7NoSuchLayer();
        promise7NotPlaced();
        promise8NoSuchLayer();
        promise8NotPlaced();
        Check.finish();
    }

    /** "inputs: 1 to 8", "IllegalArgumentException if an argument is out of range". */
    private static void promise2Inputs() {
        Twins.range("inputs, new object", Busy::fresh, 1, 8, Twins.ARGUMENT, (x, inputs) -> x.layer(inputs, 1));
        Twins.range("inputs", Busy::machine, 1, 8, Twins.ARGUMENT, (x, inputs) -> x.layer(inputs, 4));
        for (int inputs = 1; inputs <= 8; inputs++) {
            int many = inputs;
            Crossbarry x = Twins.made(y -> y.layer(many, 1));
            Check.due("the last input is there", x.rowOf(0, many - 1), -1);
            Check.index("one more is not", () -> x.rowOf(0, many));
        }
    }

    /** "outputs: 1 to 4". */
    private static void promise2Outputs() {
        Twins.range("outputs, new object", Busy::fresh, 1, 4, Twins.ARGUMENT, (x, outputs) -> x.layer(1, outputs));
        Twins.range("outputs", Busy::machine, 1, 4, Twins.ARGUMENT, (x, outputs) -> x.layer(8, outputs));
        for (int outputs = 1; outputs <= 4; outputs++) {
            int many = outputs;
            Crossbarry x = Twins.made(y -> y.layer(1, many));
            Check.due("the last output is there", x.ideal(0, 1, many - 1), 0);
            Check.index("one more is not", () -> x.ideal(0, 1, many));
        }
    }

    /** "IllegalStateException if there are 6". */
    private static void promise2ThereAreSix() {
        Crossbarry x = new Crossbarry();
        for (int number = 0; number < 6; number++) {
            Check.due("layer", x.layer(1 + number, 1), number);
        }
        Twins.refused("a seventh layer", Twins.STATE, Busy::full, y -> y.layer(1, 1));
        Twins.refused("a seventh layer", Twins.STATE, Busy::full, y -> y.layer(8, 4));
        Check.state("a seventh layer", () -> x.layer(1, 1));
        Check.state("and asked again", () -> x.layer(2, 1));
        Check.due("the sixth is as it was", x.rowOf(5, 5), -1);
        Check.index("with 6 inputs", () -> x.rowOf(5, 6));
    }

    private static void promise2FirstOfSeveral() {
        Twins.refused("full, and no inputs", Twins.ARGUMENT, Busy::full, x -> x.layer(0, 1));
        Twins.refused("full, and 9 inputs", Twins.ARGUMENT, Busy::full, x -> x.layer(9, 1));
        Twins.refused("full, and no outputs", Twins.ARGUMENT, Busy::full, x -> x.layer(1, 0));
        Twins.refused("full, and 5 outputs", Twins.ARGUMENT, Busy::full, x -> x.layer(8, 5));
    }

    /** "IndexOutOfBoundsException if there is no such layer, input or output". */
    private static void promise3NoSuchLayer() {
        Twins.range("layer", Busy::machine, 0, 3, Twins.INDEX, (x, layer) -> x.weight(layer, 0, 0, 77));
        Twins.range("layer, full", Busy::full, 0, 5, Twins.INDEX, (x, layer) -> x.weight(layer, 0, 0, 77));
        Twins.refused("none is there", Twins.INDEX, Busy::fresh, x -> x.weight(0, 0, 0, 0));
    }

    private static void promise3NoSuchInput() {
        int[] inputs = {2, 3, 8, 5};
        for (int number = 0; number < 4; number++) {
            int layer = number;
            Twins.range("input of layer " + layer, Busy::machine, 0, inputs[layer] - 1, Twins.INDEX,
                    (x, input) -> x.weight(layer, input, 0, -77));
        }
    }

    private static void promise3NoSuchOutput() {
        int[] outputs = {1, 2, 4, 3};
        for (int number = 0; number < 4; number++) {
            int layer = number;
            Twins.range("output of layer " + layer, Busy::machine, 0, outputs[layer] - 1, Twins.INDEX,
                    (x, output) -> x.weight(layer, 1, output, 123));
        }
    }

    /** "weight: -255 to 255", "IllegalArgumentException if weight is out of range". */
    private static void promise3WeightOutOfRange() {
        Twins.range("weight, placed", Busy::machine, -255, 255, Twins.ARGUMENT, (x, weight) -> x.weight(0, 1, 0, weight));
        Twins.range("weight", Busy::machine, -255, 255, Twins.ARGUMENT, (x, weight) -> x.weight(1, 2, 1, weight));
        Twins.range("weight", Busy::machine, -255, 255, Twins.ARGUMENT, (x, weight) -> x.weight(2, 7, 3, weight));
        for (int weight : new int[] {-255, 255}) {
            Crossbarry x = Twins.made(Busy::machine);
            x.weight(2, 7, 3, weight);
            Check.due("as told", x.weight(2, 7, 3, 0), weight);
        }
    }

    private static void promise3FirstOfSeveral() {
        for (int weight : new int[] {-256, 256}) {
            Twins.refused("layer, and weight", Twins.INDEX, Busy::machine, x -> x.weight(4, 0, 0, weight));
            Twins.refused("input, and weight", Twins.INDEX, Busy::machine, x -> x.weight(0, 2, 0, weight));
            Twins.refused("output, and weight", Twins.INDEX, Busy::machine, x -> x.weight(0, 0, 1, weight));
            Twins.refused("all", Twins.INDEX, Busy::machine, x -> x.weight(-1, -1, -1, weight));
        }
    }

    /** "IndexOutOfBoundsException if there is no such layer". */
    private static void promise4NoSuchLayer() {
        Twins.range("layer", Busy::machine, 0, 3, Twins.INDEX, (x, layer) -> x.shift(layer, 5));
        Twins.range("layer, full", Busy::full, 0, 5, Twins.INDEX, (x, layer) -> x.shift(layer, 5));
        Twins.refused("none is there", Twins.INDEX, Busy::fresh, x -> x.shift(0, 0));
    }

    /** "shift: 0 to 20", "IllegalArgumentException if shift is out of range". */
    private static void promise4ShiftOutOfRange() {
        for (int number = 0; number < 4; number++) {
            int layer = number;
            Twins.range("shift of layer " + layer, Busy::machine, 0, 20, Twins.ARGUMENT, (x, shift) -> x.shift(layer, shift));
        }
        for (int shift : new int[] {0, 20}) {
            Crossbarry x = Twins.made(Busy::machine);
            x.shift(0, shift);
            Check.due("as told", x.shift(0, 1), shift);
        }
    }

    private static void promise4FirstOfSeveral() {
        Twins.refused("layer, and shift", Twins.INDEX, Busy::machine, x -> x.shift(4, 21));
        Twins.refused("layer, and shift", Twins.INDEX, Busy::machine, x -> x.shift(-1, -1));
    }

    /** "IndexOutOfBoundsException if there is no such layer, of either, but for NONE as next". */
    private static void promise5NoSuchLayer() {
        Twins.range("layer, next none", Busy::machine, 0, 3, Twins.INDEX, (x, layer) -> x.next(layer, -1));
        Twins.range("layer, full", Busy::full, 0, 4, Twins.INDEX, (x, layer) -> x.next(layer == 5 ? 6 : layer, 5));
        Twins.refused("none as layer", Twins.INDEX, Busy::machine, x -> x.next(-1, 2));
        Twins.refused("none as layer, and as next", Twins.INDEX, Busy::machine, x -> x.next(-1, -1));
        Twins.refused("none is there", Twins.INDEX, Busy::fresh, x -> x.next(0, -1));
    }

    private static void promise5NoSuchNextLayer() {
        Twins.range("next", Busy::machine, -1, 3, Twins.INDEX, (x, next) -> x.next(0, next));
        Twins.range("next, full", Busy::full, -1, 5, Twins.INDEX, (x, next) -> x.next(0, next));
        Twins.refused("the last layer's", Twins.INDEX, Busy::machine, x -> x.next(3, 4));
        Twins.refused("the sixth layer's", Twins.INDEX, Busy::full, x -> x.next(5, 6));
    }

    /** "next: the next one; NONE for none". */
    private static void promise5NoneIsTaken() {
        Crossbarry x = Twins.made(Busy::machine);
        Check.due("before", x.next(0, Crossbarry.NONE), 2);
        Check.due("none now", x.next(0, Crossbarry.NONE), -1);
        Check.due("none still", x.next(3, Crossbarry.NONE), -1);
    }

    /** "IllegalArgumentException if next is not NONE, and not above layer ..". */
    private static void promise5NotAbove() {
        Twins.Calls sixAlike = x -> {
            for (int number = 0; number < 6; number++) {
                x.layer(4, 4);
            }
            for (int number = 0; number < 5; number++) {
                x.next(number, 5);
            }
        };
        for (int layer = 0; layer < 6; layer++) {
            for (int next = 0; next < 6; next++) {
                int from = layer;
                int to = next;
                if (next > layer) {
                    Twins.taken("above", sixAlike, x -> x.next(from, to));
                } else {
                    Twins.refused("not above", Twins.ARGUMENT, sixAlike, x -> x.next(from, to));
                }
            }
        }
    }

    /** ".. or has fewer inputs than the layer has outputs". */
    private static void promise5FewerInputs() {
        for (int outputs = 1; outputs <= 4; outputs++) {
            for (int inputs = 1; inputs <= 8; inputs++) {
                int from = outputs;
                int to = inputs;
                Twins.Calls two = x -> {
                    x.layer(1, from);
                    x.layer(to, 1);
                };
                if (inputs >= outputs) {
                    Check.due("next before", Twins.made(two).next(0, 1), -1);
                    Twins.taken("as many inputs or more", two, x -> x.next(0, 1));
                } else {
                    Twins.refused("fewer inputs", Twins.ARGUMENT, two, x -> x.next(0, 1));
                }
            }
        }
        // what counts is the outputs of the one and the inputs of the other
        Twins.taken("8 inputs go on to 1", x -> {
            x.layer(8, 1);
            x.layer(1, 4);
        }, x -> x.next(0, 1));
        Twins.refused("another next stays", Twins.ARGUMENT, x -> {
            x.layer(1, 3);
            x.layer(3, 1);
            x.layer(2, 1);
            x.next(0, 1);
        }, x -> x.next(0, 2));
    }

    private static void promise5FirstOfSeveral() {
        Twins.refused("no layer, and not above", Twins.INDEX, Busy::machine, x -> x.next(4, 0));
        Twins.refused("no layer, and the same", Twins.INDEX, Busy::machine, x -> x.next(4, 4));
        Twins.refused("no next, and not above", Twins.INDEX, Busy::machine, x -> x.next(3, -2));
    }

    /** "IndexOutOfBoundsException if there is no such layer or tile". */
    private static void promise6NoSuchLayer() {
        Twins.Calls allLifted = x -> {
            Busy.full(x);
            x.lift(0);
            x.lift(2);
            x.lift(3);
        };
        Twins.range("layer", allLifted, 0, 5, Twins.INDEX, (x, layer) -> x.place(layer, 0));
        Twins.refused("one more than there are", Twins.INDEX, Busy::machine, x -> x.place(4, 1));
        Twins.refused("none is there", Twins.INDEX, Busy::fresh, x -> x.place(0, 0));
    }

    private static void promise6NoSuchTile() {
        Twins.Calls allLifted = x -> {
            Busy.machine(x);
            x.lift(0);
            x.lift(2);
            x.lift(3);
        };
        for (int number = 0; number < 4; number++) {
            int layer = number;
            Twins.range("tile", allLifted, 0, 5, Twins.INDEX, (x, tile) -> x.place(layer, tile));
        }
    }

    /** "IllegalStateException if the layer is placed ..". */
    private static void promise6LayerIsPlaced() {
        for (int tile = 0; tile < 6; tile++) {
            int on = tile;
            Twins.refused("layer 0 is placed", Twins.STATE, Busy::machine, x -> x.place(0, on));
            Twins.refused("layer 2 is placed", Twins.STATE, Busy::machine, x -> x.place(2, on));
        }
        Twins.taken("it is lifted", Busy::machine, x -> {
            x.lift(0);
            x.place(0, 0);
        });
        Twins.taken("it is lifted, and goes elsewhere", Busy::machine, x -> {
            x.lift(0);
            x.place(0, 4);
        });
    }

    /** ".. or the tile has one". */
    private static void promise6TileHasOne() {
        for (int tile = 0; tile < 6; tile++) {
            int on = tile;
            if (tile == 0 || tile == 2 || tile == 5) {
                Twins.refused("tile " + tile + " has one", Twins.STATE, Busy::machine, x -> x.place(1, on));
            } else {
                Twins.taken("tile " + tile + " has none", Busy::machine, x -> x.place(1, on));
            }
        }
        Twins.taken("the other was lifted", Busy::machine, x -> {
            x.lift(2);
            x.place(1, 5);
        });
        Twins.refused("another came behind that", Twins.STATE, x -> {
            Busy.machine(x);
            x.lift(2);
            x.place(1, 5);
        }, x -> x.place(2, 5));
    }

    private static void promise6FirstOfSeveral() {
        Twins.refused("the layer is placed, and no tile", Twins.INDEX, Busy::machine, x -> x.place(0, 6));
        Twins.refused("the layer is placed, and no tile", Twins.INDEX, Busy::machine, x -> x.place(0, -1));
        Twins.refused("the tile has one, and no layer", Twins.INDEX, Busy::machine, x -> x.place(4, 0));
        Twins.refused("the tile has one, and no layer", Twins.INDEX, Busy::machine, x -> x.place(-1, 5));
    }

    /** "IndexOutOfBoundsException if there is no such layer". */
    private static void promise7NoSuchLayer() {
        Twins.Calls allPlaced = x -> {
            Busy.full(x);
            x.place(1, 1);
            x.place(4, 3);
            x.place(5, 4);
        };
        Twins.range("layer", allPlaced, 0, 5, Twins.INDEX, (x, layer) -> x.load(layer));
        Twins.refused("one more than there are", Twins.INDEX, Busy::machine, x -> x.load(4));
        Twins.refused("none is there", Twins.INDEX, Busy::fresh, x -> x.load(0));
    }

    /** "IllegalStateException if it is not placed". */
    private static void promise7NotPlaced() {
        Twins.refused("never placed", Twins.STATE, Busy::machine, x -> x.load(1));
        Twins.refused("lifted", Twins.STATE, x -> {
            Busy.machine(x);
            x.lift(0);
        }, x -> x.load(0));
        Twins.taken("placed", Busy::machine, x -> x.load(0));
        Twins.taken("placed again", Busy::machine, x -> {
            x.lift(0);
            x.place(0, 1);
            x.load(0);
        });
    }

    /** "IndexOutOfBoundsException if there is no such layer". */
    private static void promise8NoSuchLayer() {
        Twins.Calls allPlaced = x -> {
            Busy.full(x);
            x.place(1, 1);
            x.place(4, 3);
            x.place(5, 4);
        };
        Twins.range("layer", allPlaced, 0, 5, Twins.INDEX, (x, layer) -> x.lift(layer));
        Twins.refused("one more than there are", Twins.INDEX, Busy::machine, x -> x.lift(4));
        Twins.refused("none is there", Twins.INDEX, Busy::fresh, x -> x.lift(0));
    }

    /** "IllegalStateException if it is not placed". */
    private static void promise8NotPlaced() {
        Twins.refused("never placed", Twins.STATE, Busy::machine, x -> x.lift(1));
        Twins.refused("lifted", Twins.STATE, x -> {
            Busy.machine(x);
            x.lift(0);
        }, x -> x.lift(0));
        Crossbarry x = Twins.made(Busy::machine);
        Check.due("placed on the first tile", x.lift(0), 0);
        Check.due("placed on the last tile", x.lift(2), 5);
    }
}
