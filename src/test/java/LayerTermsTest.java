/**
 * Terms, "Layers": each sentence that names a boundary, on either side of it. Above each test stands the sentence that
 * it looks at.
 */
public final class LayerTermsTest {
    public static void main(String[] args) {
        numberedFrom0AtMost6();
        aWeightForEachInputAndEachOutput();
        shiftAndNextAtFirst();
        columnsOfEachOutput();
        eachWeightNeedsFourStates();
        weightsOnEitherSide();
        placedOnNoneAtFirst();
        aTileHasOneLayerAtMost();
        allRowsAreGiven();
        rowsAreUnlike();
        rowsWithTheFewestMisfits();
        theLowestRowForTheInput0();
        theLowestRowForEachNextInput();
        fewerMisfitsGoBeforeLowerRows();
        knownToBeStuck();
        neededInAStateThatIsNotItsOwn();
        neededByItsWeightsNow();
        onlyNeededColumnsCount();
        aPlaceReckonsBeforeItWrites();
        aLoadKeepsItsRows();
        whateverIsPlacedThere();
        fewestMisfitsOfManyRows();
        allWaysToGiveRows();
        foundForItself();
        aLiftLeavesTheCells();
        isTrueByEachCell();
        isTrueByWhatIsConducted();
        isTrueOnlyIfPlaced();
        Check.finish();
    }

    /** A layer of one output with these weights. */
    private static int tell(Crossbarry x, int... weights) {
        int layer = x.layer(weights.length, 1);
        for (int input = 0; input < weights.length; input++) {
            x.weight(layer, input, 0, weights[input]);
        }
        return layer;
    }

    /** Makes the low plus cells in these rows of a tile known to be stuck at 0; takes the layer 0 for that. */
    private static Crossbarry withKnown(int... rows) {
        Crossbarry x = new Crossbarry();
        tell(x, 1, 1, 1, 1, 1, 1, 1, 1);
        for (int row : rows) {
            x.stick(0, row, 0, 0);
        }
        Check.due("writes fail", x.place(0, 0), rows.length);
        x.lift(0);
        return x;
    }

    private static void dueRows(String what, Crossbarry x, int layer, int... rows) {
        for (int input = 0; input < rows.length; input++) {
            Check.due(what + ", row of input " + input, x.rowOf(layer, input), rows[input]);
        }
    }

    /** "Layers are numbered from 0, at most 6." */
    private static void numberedFrom0AtMost6() {
        Crossbarry x = new Crossbarry();
        for (int number = 0; number < 6; number++) {
            int next = number;
            Check.index("not there yet", () -> x.tileOf(next));
            Check.due("its number", x.layer(1, 1), number);
            Check.due("there now", x.tileOf(number), -1);
        }
        Check.state("a seventh one", () -> x.layer(1, 1));
        Check.index("it is not there", () -> x.tileOf(6));
    }

    /** "for each input and each output a weight, -255 to 255, 0 at first". */
    private static void aWeightForEachInputAndEachOutput() {
        Crossbarry x = new Crossbarry();
        x.layer(8, 4);
        x.layer(8, 4);
        for (int at = 0; at < 32; at++) {
            Check.due("at first", x.weight(0, at / 4, at % 4, at % 2 == 0 ? 255 - at : -255 + at), 0);
        }
        for (int at = 0; at < 32; at++) {
            Check.due("of its own", x.weight(0, at / 4, at % 4, 0), at % 2 == 0 ? 255 - at : -255 + at);
            Check.due("another layer's", x.weight(1, at / 4, at % 4, 0), 0);
        }
    }

    /** "a shift, 0 at first; and perhaps a next layer, none at first". */
    private static void shiftAndNextAtFirst() {
        Crossbarry x = new Crossbarry();
        for (int number = 0; number < 6; number++) {
            x.layer(1, 1);
        }
        for (int number = 0; number < 6; number++) {
            Check.due("shift", x.shift(number, 1 + number), 0);
            Check.due("next", x.next(number, number < 5 ? number + 1 : -1), -1);
        }
        for (int number = 0; number < 6; number++) {
            Check.due("shift of its own", x.shift(number, 0), 1 + number);
            Check.due("next of its own", x.next(number, -1), number < 5 ? number + 1 : -1);
        }
    }

    /** "in the row of its input, in the columns 4 times the output, and 1, 2 and 3 more". */
    private static void columnsOfEachOutput() {
        for (int at = 0; at < 32; at++) {
            Crossbarry x = new Crossbarry();
            x.layer(8, 4);
            x.weight(0, at / 4, at % 4, 0x53);
            x.place(0, 0);
            dueFour("plus", x, at / 4, 4 * (at % 4), 3, 5, 0, 0);
            Check.due("no other cell is written", x.wear(0), 8);
            x.weight(0, at / 4, at % 4, -0x2A);
            x.load(0);
            dueFour("minus", x, at / 4, 4 * (at % 4), 0, 0, 10, 2);
        }
    }

    private static void dueFour(String what, Crossbarry x, int row, int column, int... states) {
        for (int k = 0; k < 4; k++) {
            Check.due(what + ", row " + row + ", column " + (column + k), x.cell(0, row, column + k, 0), states[k]);
        }
    }

    /** "the remainder of the weight by 16 .. its quotient by 16 .. of the weight without its sign": all weights. */
    private static void eachWeightNeedsFourStates() {
        for (int first = -255; first <= 255; first += 32) {
            Crossbarry x = new Crossbarry();
            x.layer(8, 4);
            for (int at = 0; at < 32 && first + at <= 255; at++) {
                x.weight(0, at / 4, at % 4, first + at);
            }
            Check.due("no write fails", x.place(0, 0), 0);
            for (int at = 0; at < 32 && first + at <= 255; at++) {
                int weight = first + at;
                int size = weight < 0 ? -weight : weight;
                int plus = weight < 0 ? 0 : size;
                int minus = size - plus;
                dueFour("weight " + weight, x, at / 4, at % 4 * 4, plus % 16, plus / 16, minus % 16, minus / 16);
            }
            Check.due("true", x.isTrue(0), true);
        }
    }

    /** "If the weight is 0 or above .. if it is below 0": the ends, and where a carry goes up. */
    private static void weightsOnEitherSide() {
        int[][] due = {{0, 0, 0, 0, 0}, {1, 1, 0, 0, 0}, {-1, 0, 0, 1, 0}, {15, 15, 0, 0, 0}, {16, 0, 1, 0, 0},
            {-15, 0, 0, 15, 0}, {-16, 0, 0, 0, 1}, {255, 15, 15, 0, 0}, {-255, 0, 0, 15, 15}, {240, 0, 15, 0, 0},
            {239, 15, 14, 0, 0}, {-240, 0, 0, 0, 15}, {-239, 0, 0, 15, 14}};
        for (int[] row : due) {
            Crossbarry x = new Crossbarry();
            tell(x, row[0]);
            x.place(0, 0);
            dueFour("weight " + row[0], x, 0, 0, row[1], row[2], row[3], row[4]);
        }
    }

    /** "A layer is placed on a tile, or on none, as at first". */
    private static void placedOnNoneAtFirst() {
        for (int tile = 0; tile < 6; tile++) {
            Crossbarry x = new Crossbarry();
            tell(x, 3);
            Check.due("on none", x.tileOf(0), -1);
            x.place(0, tile);
            Check.due("on a tile", x.tileOf(0), tile);
            for (int other = 0; other < 6; other++) {
                Check.due("written there alone", x.cell(other, 0, 0, 0), other == tile ? 3 : 0);
            }
        }
    }

    /** "a tile has one layer at most". */
    private static void aTileHasOneLayerAtMost() {
        Crossbarry x = new Crossbarry();
        for (int number = 0; number < 6; number++) {
            tell(x, 1 + number);
        }
        for (int number = 0; number < 6; number++) {
            int layer = number;
            for (int tile = 0; tile < number; tile++) {
                int taken = tile;
                Check.state("the tile has one", () -> x.place(layer, taken));
            }
            Check.due("the next tile is free", x.place(number, number), 0);
        }
        x.lift(2);
        x.lift(4);
        Check.due("free again", x.place(4, 2), 0);
        Check.state("and taken again", () -> x.place(2, 2));
        Check.due("the other is free too", x.place(2, 4), 0);
    }

    /** "to give each of its inputs a row of the tile": 8 inputs take all 8 rows, also the last ones. */
    private static void allRowsAreGiven() {
        for (int inputs = 1; inputs <= 8; inputs++) {
            Crossbarry x = new Crossbarry();
            x.layer(inputs, 1);
            x.place(0, 3);
            for (int input = 0; input < inputs; input++) {
                Check.due("without faults the lowest ones", x.rowOf(0, input), input);
            }
        }
    }

    /** "unlike ones". */
    private static void rowsAreUnlike() {
        Crossbarry x = withKnown(0, 1, 2, 3, 4, 5, 6);
        int layer = tell(x, 5, 5, 5);
        Check.due("one fits in row 7", x.place(layer, 0), 2);
        dueRows("the others go below", x, layer, 0, 1, 7);
    }

    /** "The rows are those with the fewest misfits". */
    private static void rowsWithTheFewestMisfits() {
        Crossbarry x = withKnown(0, 1, 2, 3, 4, 5, 6);
        int layer = tell(x, 5);
        Check.due("no write fails", x.place(layer, 0), 0);
        dueRows("the last row", x, layer, 7);
        Crossbarry y = withKnown(0, 1, 2, 3, 4, 5, 6, 7);
        int other = tell(y, 5);
        Check.due("it misfits everywhere", y.place(other, 0), 1);
        dueRows("the first row then", y, other, 0);
    }

    /** "of several those with the lowest row for the input 0". */
    private static void theLowestRowForTheInput0() {
        Crossbarry x = withKnown(0, 2, 3);
        int layer = tell(x, 5, 0);
        Check.due("no write fails", x.place(layer, 0), 0);
        dueRows("input 0 goes to the lowest that fits", x, layer, 1, 0);
        Crossbarry y = withKnown(2, 3, 4, 5, 6, 7);
        int other = tell(y, 0, 5, 5);
        Check.due("no write fails", y.place(other, 0), 0);
        dueRows("input 0 leaves the fitting rows to the others", y, other, 2, 0, 1);
        Crossbarry z = withKnown(3, 4, 5, 6, 7);
        int third = tell(z, 0, 5, 5);
        Check.due("no write fails", z.place(third, 0), 0);
        dueRows("input 0 goes first, as one is left over", z, third, 0, 1, 2);
    }

    /** "of these with the lowest one for the input 1, and so on". */
    private static void theLowestRowForEachNextInput() {
        Crossbarry x = withKnown(1, 2, 5);
        int layer = tell(x, 5, 0, 5, 0, 5, 0, 5, 5);
        Check.due("no write fails", x.place(layer, 0), 0);
        dueRows("each the lowest that is left", x, layer, 0, 1, 3, 2, 4, 5, 6, 7);
        Crossbarry y = withKnown(0, 1, 2, 3, 4, 5);
        int other = tell(y, 0, 5, 5, 5);
        Check.due("one misfits", y.place(other, 0), 1);
        dueRows("input 1 misfits, as its row is lowest then", y, other, 0, 1, 6, 7);
        Crossbarry z = withKnown(0, 6, 7);
        int last = tell(z, 5, 5, 5, 5, 5, 0, 0, 0);
        Check.due("no write fails", z.place(last, 0), 0);
        dueRows("to the last input", z, last, 1, 2, 3, 4, 5, 0, 6, 7);
    }

    /** "fewest misfits; of several those ..": one misfit less outweighs all rows. */
    private static void fewerMisfitsGoBeforeLowerRows() {
        Crossbarry x = withKnown(0, 1, 2, 3, 4, 5, 6);
        int layer = tell(x, 0, 0, 0, 0, 0, 0, 5);
        Check.due("no write fails", x.place(layer, 0), 0);
        dueRows("the last input to the last row", x, layer, 0, 1, 2, 3, 4, 5, 7);
        Crossbarry y = withKnown(0, 1, 2, 3, 4, 5, 6);
        int other = tell(y, 5, 0, 0, 0, 0, 0, 0, 0);
        Check.due("no write fails", y.place(other, 0), 0);
        dueRows("the first input to the last row", y, other, 7, 0, 1, 2, 3, 4, 5, 6);
    }

    /** "A misfit is a cell that is known to be stuck ..": one that is stuck and not known is none. */
    private static void knownToBeStuck() {
        Crossbarry x = new Crossbarry();
        x.stick(0, 0, 0, 9);
        x.stick(0, 1, 0, 9);
        int layer = tell(x, 5);
        Check.due("not known", x.misfits(layer, 0), 0);
        Check.due("not known, anew", x.misfitsAnew(layer, 0), 0);
        Check.due("it is tried", x.place(layer, 0), 1);
        dueRows("the first row", x, layer, 0);
        x.lift(layer);
        Check.due("row 1 is not known still", x.place(layer, 0), 1);
        dueRows("the second row", x, layer, 1);
        x.lift(layer);
        Check.due("both are known", x.place(layer, 0), 0);
        dueRows("the third row", x, layer, 2);
    }

    /** ".. and is needed then in a state that is not its own one". */
    private static void neededInAStateThatIsNotItsOwn() {
        Crossbarry x = new Crossbarry();
        tell(x, 0, 0, 0, 0, 0, 0, 0, 0);
        for (int row = 0; row < 8; row++) {
            x.stick(0, row, 0, 7);
            x.stick(0, row, 3, 2);
        }
        Check.due("all are known", x.place(0, 0), 16);
        x.lift(0);
        int layer = tell(x, 0);
        int[][] due = {{7, 1}, {6, 2}, {8, 2}, {0x17, 1}, {-7, 2}, {-0x20, 1}, {-0x27, 1}, {-0x30, 2}, {0, 2}};
        for (int[] pair : due) {
            x.weight(layer, 0, 0, pair[0]);
            Check.due("misfits of " + pair[0], x.misfits(layer, 0), pair[1]);
            Check.due("misfits of " + pair[0] + ", anew", x.misfitsAnew(layer, 0), pair[1]);
        }
    }

    /** "is needed then": the weights as they are told by then, not as they were loaded. */
    private static void neededByItsWeightsNow() {
        Crossbarry x = withKnown(0);
        int layer = tell(x, 5);
        Check.due("row 0 misfits", x.place(layer, 0), 0);
        dueRows("not row 0", x, layer, 1);
        x.weight(layer, 0, 0, 0);
        Check.due("fits everywhere", x.misfits(layer, 0), 0);
        x.lift(layer);
        x.place(layer, 0);
        dueRows("row 0", x, layer, 0);
    }

    /** "needed": faults in columns of outputs that the layer has not do not count. */
    private static void onlyNeededColumnsCount() {
        for (int outputs = 1; outputs <= 4; outputs++) {
            for (int column = 0; column < 16; column++) {
                Crossbarry x = new Crossbarry();
                x.layer(8, 4);
                for (int row = 0; row < 8; row++) {
                    x.stick(0, row, column, 1);
                }
                x.place(0, 0);
                x.lift(0);
                x.layer(2, outputs);
                int due = column < 4 * outputs ? 2 : 0;
                Check.due("column " + column + " of " + outputs + " outputs", x.misfits(1, 0), due);
                Check.due("column " + column + " of " + outputs + " outputs, anew", x.misfitsAnew(1, 0), due);
            }
        }
    }

    /** "and to load it": rows go by what is known before that, also where the load itself finds a fault. */
    private static void aPlaceReckonsBeforeItWrites() {
        Crossbarry x = new Crossbarry();
        x.stick(0, 0, 0, 0);
        int layer = tell(x, 5, 0);
        Check.due("found by loading", x.place(layer, 0), 1);
        dueRows("as if there were none", x, layer, 0, 1);
        x.lift(layer);
        Check.due("avoided then", x.place(layer, 0), 0);
        dueRows("the two change rows", x, layer, 1, 0);
    }

    /** "To load a layer is to write all cells that it needs": its rows stay. */
    private static void aLoadKeepsItsRows() {
        Crossbarry x = new Crossbarry();
        int layer = tell(x, 5);
        x.place(layer, 0);
        x.stick(0, 0, 0, 2);
        Check.due("it fails", x.load(layer), 1);
        Check.due("it fails again", x.load(layer), 1);
        dueRows("its row", x, layer, 0);
        Check.due("there would be a better one", x.misfits(layer, 0), 0);
        x.lift(layer);
        Check.due("no write fails", x.place(layer, 0), 0);
        dueRows("the better one", x, layer, 1);
    }

    /** "the fewest misfits that a layer could have on a tile now, whatever is placed there". */
    private static void whateverIsPlacedThere() {
        Crossbarry x = withKnown(0, 1, 2, 3, 4, 5, 6, 7);
        int layer = tell(x, 5, 5);
        Check.due("none is placed there", x.misfits(layer, 0), 2);
        x.place(0, 0);
        Check.due("another is placed there", x.misfits(layer, 0), 2);
        Check.due("another is placed there, anew", x.misfitsAnew(layer, 0), 2);
        x.lift(0);
        x.place(layer, 0);
        Check.due("itself is placed there", x.misfits(layer, 0), 2);
        Check.due("itself is placed there, anew", x.misfitsAnew(layer, 0), 2);
        Check.due("another tile", x.misfits(layer, 1), 0);
        Check.due("another tile, anew", x.misfitsAnew(layer, 1), 0);
    }

    /** From no misfit to all cells misfit. */
    private static void fewestMisfitsOfManyRows() {
        for (int faulty = 0; faulty <= 8; faulty++) {
            int[] rows = new int[faulty];
            for (int k = 0; k < faulty; k++) {
                rows[k] = 7 - k;
            }
            Crossbarry x = withKnown(rows);
            for (int inputs = 1; inputs <= 4; inputs++) {
                int[] weights = new int[inputs];
                java.util.Arrays.fill(weights, 5);
                int layer = tell(x, weights);
                int due = Math.max(0, inputs - (8 - faulty));
                Check.due(faulty + " rows are faulty, " + inputs + " inputs", x.misfits(layer, 0), due);
                Check.due(faulty + " rows are faulty, " + inputs + " inputs, anew", x.misfitsAnew(layer, 0), due);
            }
            Check.due("8 inputs", x.misfits(0, 0), faulty);
        }
        Crossbarry y = new Crossbarry();
        y.layer(8, 4);
        for (int at = 0; at < 128; at++) {
            y.stick(4, at / 16, at % 16, 1);
        }
        y.place(0, 4);
        Check.due("all cells misfit", y.misfits(0, 4), 128);
        y.layer(4, 4);
        Check.due("all cells of four rows misfit", y.misfits(1, 4), 64);
        Check.due("all cells of four rows misfit, anew", y.misfitsAnew(1, 4), 64);
    }

    /** "found by trying all ways to give the inputs rows": each way is the best one once. */
    private static void allWaysToGiveRows() {
        for (int inputs = 1; inputs <= 4; inputs++) {
            Crossbarry x = null;
            int calls = 512;
            for (int way = 0; way < 1 << 3 * inputs; way++) {
                if (calls + inputs + 2 > 512) {
                    x = whereRowsFitOneWeightEach();
                    x.layer(inputs, 1);
                    calls = 19;
                }
                int taken = 0;
                for (int input = 0; input < inputs; input++) {
                    int row = way >> 3 * input & 7;
                    x.weight(1, input, 0, row + 1);
                    taken |= 1 << row;
                }
                // weights that are like want the same row, and one has it alone
                int due = inputs - Integer.bitCount(taken);
                Check.due("way " + Integer.toOctalString(way) + ", anew", x.misfitsAnew(1, 0), due);
                Check.due("way " + Integer.toOctalString(way), x.misfits(1, 0), due);
                calls += inputs + 2;
            }
        }
    }

    /** "now": each call finds it by the layer and the tile that it is given, whatever was asked before. */
    private static void foundForItself() {
        Crossbarry x = whereRowsFitOneWeightEach();
        tell(x, 1, 1, 9);
        tell(x, 2, 3);
        for (int time = 0; time < 3; time++) {
            Check.due("layer 1, anew", x.misfitsAnew(1, 0), 2);
            Check.due("layer 2, anew", x.misfitsAnew(2, 0), 0);
            Check.due("layer 1", x.misfits(1, 0), 2);
            Check.due("layer 2", x.misfits(2, 0), 0);
            Check.due("layer 0", x.misfits(0, 0), 8);
            Check.due("layer 1, anew, another tile", x.misfitsAnew(1, 1), 0);
            Check.due("layer 1 again, anew", x.misfitsAnew(1, 0), 2);
            Check.due("layer 0, another tile", x.misfits(0, 1), 0);
        }
        x.weight(1, 1, 0, 4);
        Check.due("weights as they are now, anew", x.misfitsAnew(1, 0), 1);
        x.weight(1, 2, 0, 8);
        Check.due("weights as they are now, anew", x.misfitsAnew(1, 0), 0);
        x.weight(1, 0, 0, 8);
        Check.due("weights as they are now", x.misfits(1, 0), 1);
    }

    /** The low plus cell in each row is known to be stuck at 1 more than the row. */
    private static Crossbarry whereRowsFitOneWeightEach() {
        Crossbarry x = new Crossbarry();
        tell(x, 0, 0, 0, 0, 0, 0, 0, 0);
        for (int row = 0; row < 8; row++) {
            x.stick(0, row, 0, row + 1);
        }
        Check.due("all are found", x.place(0, 0), 8);
        return x;
    }

    /** "To lift a layer is to take it off its tile; the cells stay as they are." */
    private static void aLiftLeavesTheCells() {
        Crossbarry x = new Crossbarry();
        tell(x, 0x86, -0x53);
        x.stick(0, 0, 3, 9);
        x.drift(1);
        x.pass(1);
        x.place(0, 0);
        x.pass(2);
        for (int time = 0; time < 2; time++) {
            String what = time == 0 ? "placed" : "lifted";
            dueFour(what, x, 0, 0, 6, 8, 0, 9);
            dueFour(what, x, 1, 0, 0, 0, 3, 5);
            Check.due(what + ", conducts", x.cell(0, 0, 1, 1), 6);
            Check.due(what + ", conducts", x.cell(0, 1, 2, 1), 1);
            Check.due(what + ", wear", x.wear(0), 6 + 8 + 16 + 3 + 5);
            Check.due(what + ", stuck", x.cell(0, 0, 3, 3), 1);
            Check.due(what + ", known", x.cell(0, 0, 3, 4), 1);
            if (time == 0) {
                Check.due("lift", x.lift(0), 0);
            }
        }
    }

    /** "A layer is true, if .. each cell that it needs conducts now what is needed". */
    private static void isTrueByEachCell() {
        for (int at = 0; at < 128; at++) {
            Crossbarry x = new Crossbarry();
            x.layer(3, 2);
            for (int input = 0; input < 3; input++) {
                x.weight(0, input, 0, 0x21);
                x.weight(0, input, 1, -0x12);
            }
            x.place(0, 0);
            int row = at / 16;
            int column = at % 16;
            Check.due("true", x.isTrue(0), true);
            int state = x.cell(0, row, column, 0);
            x.stick(0, row, column, state + 1);
            boolean isNeeded = row < 3 && column < 8;
            Check.due("row " + row + ", column " + column + " has 1 more", x.isTrue(0), !isNeeded);
        }
        Crossbarry y = new Crossbarry();
        tell(y, 0x21);
        y.place(0, 0);
        y.stick(0, 0, 0, 1);
        Check.due("stuck at what is needed", y.isTrue(0), true);
        y.weight(0, 0, 0, 0x22);
        Check.due("by its weights now", y.isTrue(0), false);
        y.weight(0, 0, 0, 0x21);
        Check.due("by its weights now", y.isTrue(0), true);
    }

    /** "conducts now": one hour before the drift takes 1, and then. */
    private static void isTrueByWhatIsConducted() {
        Crossbarry x = new Crossbarry();
        tell(x, 0x10, 0);
        x.place(0, 0);
        x.drift(5);
        x.pass(4);
        Check.due("before", x.isTrue(0), true);
        x.pass(1);
        Check.due("1 less", x.isTrue(0), false);
        x.weight(0, 0, 0, 0);
        Check.due("what is needed now", x.isTrue(0), true);
        x.drift(0);
        Check.due("1 more than needed", x.isTrue(0), false);
        x.weight(0, 0, 0, 0x10);
        Check.due("as loaded", x.isTrue(0), true);
    }

    /** "if it is placed". */
    private static void isTrueOnlyIfPlaced() {
        Crossbarry x = new Crossbarry();
        tell(x, 0);
        Check.due("never placed, though all cells are as needed", x.isTrue(0), false);
        x.place(0, 0);
        Check.due("placed", x.isTrue(0), true);
        x.lift(0);
        Check.due("lifted", x.isTrue(0), false);
    }
}
