/** Promises 18 to 26 and 31 to 33: what is asked of cells, layers and tiles. */
public final class AskedTest {
    private static final int MIN = Integer.MIN_VALUE;
    private static final int MAX = Integer.MAX_VALUE;

    public static void main(String[] args) {
        promise18Cell();
        promise19RowOf();
        promise20TileOf();
        promises21And22Misfits();
        promises21And22EachRowFitsOneWeight();
        promise22MoreThanFourInputs();
        promise23IsTrue();
        promise24AnswerBitByBit();
        promise24AnswerOfRoundedAndClippedCurrents();
        promise24AnswerWithOffsets();
        promise24AnswerOfWhatCellsConduct();
        promise24Refused();
        promise25Ideal();
        promise26Bound();
        promise26BoundsWithOffsets();
        promise26BoundsOfSteps();
        promise26BoundsOfTheLargestLayer();
        promise26Refused();
        promise31Wear();
        promise32Share();
        promise33Hour();
        Check.finish();
    }

    /** A layer 0 with one output and the weights given. */
    private static Crossbarry withWeights(int... weights) {
        Crossbarry x = new Crossbarry();
        x.layer(weights.length, 1);
        for (int input = 0; input < weights.length; input++) {
            x.weight(0, input, 0, weights[input]);
        }
        return x;
    }

    private static void promise18Cell() {
        Crossbarry x = withWeights(-0x70);
        x.place(0, 1);
        x.drift(2);
        x.pass(4);
        int[] due = {7, 5, 7, 0, 0};
        for (int what = 0; what < 5; what++) {
            Check.due("what " + what, x.cell(1, 0, 3, what), due[what]);
        }
        x.stick(1, 0, 0, 9);
        x.load(0);
        int[] stuck = {9, 9, 16, 1, 1};
        for (int what = 0; what < 5; what++) {
            Check.due("what " + what, x.cell(1, 0, 0, what), stuck[what]);
        }
        int[] tiles = {MIN, -1, 6, MAX};
        int[] rows = {MIN, -1, 8, MAX};
        int[] columns = {MIN, -1, 16, MAX};
        int[] whats = {MIN, -1, 5, MAX};
        for (int k = 0; k < 4; k++) {
            int at = k;
            Check.index("no tile", () -> x.cell(tiles[at], 0, 0, 0));
            Check.index("no row", () -> x.cell(0, rows[at], 0, 0));
            Check.index("no column", () -> x.cell(0, 0, columns[at], 0));
            Check.index("what out of range", () -> x.cell(0, 0, 0, whats[at]));
        }
    }

    private static void promise19RowOf() {
        Crossbarry x = withWeights(1, 2, 3);
        Check.due("not placed", x.rowOf(0, 2), -1);
        x.place(0, 0);
        for (int input = 0; input < 3; input++) {
            Check.due("row", x.rowOf(0, input), input);
        }
        Check.index("no input", () -> x.rowOf(0, 3));
        Check.index("no input", () -> x.rowOf(0, -1));
        Check.index("no layer", () -> x.rowOf(1, 0));
        Check.index("no layer", () -> x.rowOf(-1, 0));
        x.lift(0);
        Check.due("lifted", x.rowOf(0, 0), -1);
        Check.index("no input, not placed", () -> x.rowOf(0, 3));
    }

    private static void promise20TileOf() {
        Crossbarry x = withWeights(1);
        Check.due("not placed", x.tileOf(0), -1);
        x.place(0, 5);
        Check.due("tile", x.tileOf(0), 5);
        x.lift(0);
        x.place(0, 0);
        Check.due("tile", x.tileOf(0), 0);
        Check.index("no layer", () -> x.tileOf(1));
        Check.index("no layer", () -> x.tileOf(-1));
        Check.index("no layer", () -> x.tileOf(6));
        Check.index("no layer", () -> x.tileOf(MAX));
    }

    private static void promises21And22Misfits() {
        Crossbarry x = withWeights(1, 1, 1, 1, 1, 1, 1, 1);
        for (int row = 0; row < 6; row++) {
            x.stick(0, row, 0, 0);
            x.stick(0, row, 2, 7);
        }
        Check.due("nothing is known", x.misfits(0, 0), 0);
        Check.due("each is found", x.place(0, 0), 12);
        Check.due("two in each of six rows, and placed there itself", x.misfits(0, 0), 12);
        Check.due("none on another tile", x.misfits(0, 1), 0);
        x.layer(4, 1);
        Check.due("plus cells fit then", x.misfits(1, 0), 2);
        Check.due("found anew", x.misfitsAnew(1, 0), 2);
        x.weight(1, 0, 0, -7);
        Check.due("one more fits", x.misfits(1, 0), 1);
        Check.due("found anew", x.misfitsAnew(1, 0), 1);
        x.weight(1, 1, 0, -8);
        x.weight(1, 2, 0, -8);
        x.weight(1, 3, 0, -8);
        Check.due("two go to sound rows", x.misfits(1, 0), 1);
        Check.due("found anew", x.misfitsAnew(1, 0), 1);
        x.weight(1, 0, 0, 1);
        Check.due("two misfit, the better two", x.misfits(1, 0), 2);
        Check.due("found anew", x.misfitsAnew(1, 0), 2);
        x.layer(1, 2);
        Check.due("only columns that are needed count", x.misfits(2, 0), 0);
        Check.due("found anew", x.misfitsAnew(2, 0), 0);
        Check.index("no layer", () -> x.misfits(3, 0));
        Check.index("no layer", () -> x.misfits(-1, 0));
        Check.index("no tile", () -> x.misfits(0, 6));
        Check.index("no tile", () -> x.misfits(0, -1));
        Check.index("no layer", () -> x.misfitsAnew(3, 0));
        Check.index("no layer", () -> x.misfitsAnew(-1, 0));
        Check.index("no tile", () -> x.misfitsAnew(1, 6));
        Check.index("no tile", () -> x.misfitsAnew(1, -1));
        Check.due("asking changes nothing", x.rowOf(0, 7), 7);
    }

    /** Column 0 of each row is known to be stuck at 1 more than the row. */
    private static void promises21And22EachRowFitsOneWeight() {
        int[][] weights = {{1}, {8}, {8, 1}, {3, 2, 1}, {8, 7, 6, 5}, {1, 8, 2, 7}, {4, 3, 8, 1}, {9, 5, 5, 10}};
        int[] due = {0, 0, 0, 0, 0, 0, 0, 3};
        for (int k = 0; k < weights.length; k++) {
            Crossbarry y = withWeights(0, 0, 0, 0, 0, 0, 0, 0);
            for (int row = 0; row < 8; row++) {
                y.stick(0, row, 0, row + 1);
            }
            Check.due("each is found", y.place(0, 0), 8);
            y.layer(weights[k].length, 1);
            for (int input = 0; input < weights[k].length; input++) {
                y.weight(1, input, 0, weights[k][input]);
            }
            Check.due("found anew", y.misfitsAnew(1, 0), due[k]);
            Check.due("misfits", y.misfits(1, 0), due[k]);
        }
    }

    private static void promise22MoreThanFourInputs() {
        Crossbarry x = new Crossbarry();
        x.layer(5, 1);
        x.layer(8, 4);
        x.layer(4, 4);
        Check.state("5 inputs", () -> x.misfitsAnew(0, 0));
        Check.state("8 inputs", () -> x.misfitsAnew(1, 0));
        Check.index("5 inputs, and no tile", () -> x.misfitsAnew(0, 6));
        Check.due("4 inputs", x.misfitsAnew(2, 0), 0);
    }

    private static void promise23IsTrue() {
        Crossbarry x = withWeights(5, 0);
        Check.due("not placed", x.isTrue(0), false);
        x.stick(0, 1, 3, 1);
        x.place(0, 0);
        Check.due("a cell that needs 0 is stuck at 1", x.isTrue(0), false);
        x.lift(0);
        x.stick(0, 0, 4, 9);
        x.place(0, 0);
        Check.due("cells that are not needed do not matter", x.isTrue(0), true);
        x.weight(0, 0, 0, 4);
        Check.due("weights as they are now", x.isTrue(0), false);
        x.drift(10);
        x.pass(10);
        Check.due("what it conducts now", x.isTrue(0), true);
        x.pass(10);
        Check.due("what it conducts now", x.isTrue(0), false);
        Check.index("no layer", () -> x.isTrue(1));
        Check.index("no layer", () -> x.isTrue(-1));
    }

    private static void promise24AnswerBitByBit() {
        Crossbarry x = new Crossbarry();
        x.layer(8, 4);
        for (int input = 0; input < 8; input++) {
            for (int output = 0; output < 4; output++) {
                x.weight(0, input, output, (input * 67 + output * 131) % 511 - 255);
            }
        }
        x.place(0, 2);
        long[] vectors = {0, -1, 1, 0x8000000000000000L, 0x0123456789ABCDEFL, 0xFEDCBA9876543210L, 0x80808080L};
        for (long vector : vectors) {
            for (int output = 0; output < 4; output++) {
                Check.due("exact", x.answer(0, vector, output), x.ideal(0, vector, output));
            }
        }
    }

    private static void promise24AnswerOfRoundedAndClippedCurrents() {
        Crossbarry x = withWeights(0x2F, 0x2F, -0x13);
        x.place(0, 0);
        // Low plus 30, high plus 4, low minus 3, high minus 1.
        Check.due("exact", x.answer(0, 0x010101, 0), 47 + 47 - 19);
        x.converter(0, 4, 127);
        Check.due("rounded down", x.answer(0, 0x010101, 0), 28 + 16 * 4);
        x.converter(0, 1, 20);
        Check.due("clipped", x.answer(0, 0x010101, 0), 20 + 16 * 4 - 3 - 16);
        x.converter(0, 3, 5);
        Check.due("clipped in steps", x.answer(0, 0x010101, 0), 15 + 16 * 3 - 3);
        Check.due("each bit for itself", x.answer(0, 0x008203, 0),
                15 + 2 * (15 + 16 * 3) + 128 * 15);
        Check.due("inputs that there are not", x.answer(0, 0xFFFFFFFFFF010101L, 0), 15 + 16 * 3 - 3);
        x.weight(0, 0, 0, 0);
        Check.due("weights not loaded do not matter", x.answer(0, 0x010101, 0), 15 + 16 * 3 - 3);
    }

    private static void promise24AnswerWithOffsets() {
        Crossbarry x = new Crossbarry();
        x.layer(1, 2);
        x.weight(0, 0, 1, 2);
        x.place(0, 0);
        x.offset(0, 0, 3);
        x.offset(0, 5, -3);
        x.offset(0, 6, 1);
        Check.due("read without a current too", x.answer(0, 0, 0), 3 * 255);
        Check.due("0 at least", x.answer(0, 0, 1), -255);
        x.offset(0, 4, -1);
        Check.due("less by 1", x.answer(0, 1, 1), 1 - 255);
        x.offset(0, 7, 2);
        Check.due("16 times", x.answer(0, 1, 1), 1 - 255 - 16 * 2 * 255);
        x.converter(0, 2, 127);
        Check.due("first the offset, then the step", x.answer(0, 1, 1), -16 * 2 * 255);
        x.calibrate(0, true);
        Check.due("calibrated", x.answer(0, 1, 0), 0);
        Check.due("calibrated", x.answer(0, 255, 1), 510);
        x.calibrate(0, false);
        Check.due("no longer", x.answer(0, 0, 0), 2 * 255);
    }

    private static void promise24AnswerOfWhatCellsConduct() {
        Crossbarry x = withWeights(9, 9);
        x.place(0, 0);
        x.stick(0, 0, 1, 2);
        Check.due("a stuck cell conducts too", x.answer(0, 0x0101, 0), 18 + 32);
        x.stick(0, 5, 0, 15);
        Check.due("not in other rows", x.answer(0, 0x0101, 0), 18 + 32);
        x.drift(1);
        x.pass(4);
        Check.due("drifted", x.answer(0, 0x0101, 0), 10 + 32);
    }

    private static void promise24Refused() {
        Crossbarry x = withWeights(1);
        Check.state("not placed", () -> x.answer(0, 1, 0));
        Check.index("no output, not placed", () -> x.answer(0, 1, 1));
        Check.index("no output", () -> x.answer(0, 1, -1));
        Check.index("no layer", () -> x.answer(1, 1, 0));
        Check.index("no layer", () -> x.answer(-1, 1, 0));
    }

    private static void promise25Ideal() {
        Crossbarry x = withWeights(255, -255, 255, 255, 255, 255, 255, 255);
        Check.due("not placed", x.ideal(0, -1L, 0), 6 * 255 * 255);
        Check.due("lowest bits first", x.ideal(0, 0x0203L, 0), 255);
        Check.due("the last input", x.ideal(0, 0xFF00000000000000L, 0), 255 * 255);
        Check.due("nothing", x.ideal(0, 0, 0), 0);
        Check.index("no output", () -> x.ideal(0, 0, 1));
        Check.index("no output", () -> x.ideal(0, 0, -1));
        Check.index("no layer", () -> x.ideal(1, 0, 0));
        Check.index("no layer", () -> x.ideal(MIN, 0, 0));
        Crossbarry y = withWeights(3);
        Check.due("inputs that there are not", y.ideal(0, 0xFFFFFF02L, 0), 6);
    }

    private static void promise26Bound() {
        Crossbarry x = withWeights(0x1F, 0x1F, -0x35);
        x.place(0, 0);
        Check.due("exact", x.bound(0, 0, false), 0);
        Check.due("exact", x.bound(0, 0, true), 0);
        x.converter(0, 4, 127);
        // Needs: 30, 2, 5, 3; errors from -3, -2, -3, -3 to 0.
        Check.due("lower", x.bound(0, 0, false), 255 * (-3 - 16 * 2));
        Check.due("upper", x.bound(0, 0, true), 255 * (3 + 16 * 3));
        x.converter(0, 1, 10);
        Check.due("clipped", x.bound(0, 0, false), 255 * -20);
        Check.due("clipped", x.bound(0, 0, true), 0);
        x.weight(0, 1, 0, 0);
        Check.due("weights as they are now", x.bound(0, 0, false), 255 * -5);
        x.stick(0, 0, 0, 0);
        Check.due("stuck cells do not matter", x.bound(0, 0, false), 255 * -5);
    }

    private static void promise26BoundsWithOffsets() {
        Crossbarry x = withWeights(2);
        x.place(0, 0);
        x.offset(0, 0, -3);
        Check.due("0 at least: errors from -2 to 0", x.bound(0, 0, false), 255 * -2);
        Check.due("0 at least: errors from -2 to 0", x.bound(0, 0, true), 0);
        x.offset(0, 0, 0);
        x.offset(0, 3, 2);
        Check.due("a need of 0, always 2 too much", x.bound(0, 0, false), 255 * -32);
        Check.due("a need of 0, always 2 too much", x.bound(0, 0, true), 255 * -32);
        x.offset(0, 0, 3);
        Check.due("3 more", x.bound(0, 0, false), 255 * (3 - 32));
        Check.due("3 more", x.bound(0, 0, true), 255 * (3 - 32));
        Check.due("within", x.answer(0, 255, 0) - x.ideal(0, 255, 0), 255 * (3 - 32));
        x.calibrate(0, true);
        Check.due("calibrated", x.bound(0, 0, false), 0);
    }

    private static void promise26BoundsOfSteps() {
        Crossbarry x = withWeights(1);
        x.place(0, 0);
        x.converter(0, 2, 127);
        Check.due("1 less at the need", x.bound(0, 0, false), -255);
        Check.due("exact without a current", x.bound(0, 0, true), 0);
        x.offset(0, 0, 1);
        Check.due("exact without a current", x.bound(0, 0, false), 0);
        Check.due("1 more at the need", x.bound(0, 0, true), 255);
        x.weight(0, 0, 0, 2);
        Check.due("exact at the need", x.bound(0, 0, false), 0);
        Check.due("1 more between", x.bound(0, 0, true), 255);
        x.converter(0, 3, 1);
        Check.due("2 less between", x.bound(0, 0, false), -255);
        Check.due("1 more at the need", x.bound(0, 0, true), 255);
    }

    private static void promise26BoundsOfTheLargestLayer() {
        Crossbarry x = new Crossbarry();
        x.layer(8, 4);
        for (int input = 0; input < 8; input++) {
            x.weight(0, input, 3, 255);
        }
        x.place(0, 5);
        Check.due("a need of 120", x.bound(0, 3, false), 0);
        x.converter(5, 1, 100);
        Check.due("clipped", x.bound(0, 3, false), 255 * 17 * -20);
        Check.due("clipped", x.bound(0, 3, true), 0);
        Check.due("a need of 0", x.bound(0, 2, false), 0);
    }

    private static void promise26Refused() {
        Crossbarry x = withWeights(1);
        Check.state("not placed", () -> x.bound(0, 0, true));
        Check.index("no output, not placed", () -> x.bound(0, 1, true));
        Check.index("no output", () -> x.bound(0, -1, false));
        Check.index("no layer", () -> x.bound(1, 0, false));
        Check.index("no layer", () -> x.bound(-1, 0, false));
    }

    private static void promise31Wear() {
        Crossbarry x = withWeights(0x33, -0x12);
        x.place(0, 4);
        Check.due("pulses of all cells", x.wear(4), 9);
        Check.due("of this tile alone", x.wear(3), 0);
        x.stick(4, 0, 2, 1);
        x.load(0);
        Check.due("pulses to a stuck cell", x.wear(4), 25);
        Check.index("no tile", () -> x.wear(6));
        Check.index("no tile", () -> x.wear(-1));
    }

    private static void promise32Share() {
        Crossbarry x = new Crossbarry();
        for (int row = 0; row < 8; row++) {
            for (int column = 0; column < 16; column++) {
                x.stick(1, row, column, 0);
                Check.due("share", x.share(1), (row * 16 + column + 1) / 128f);
            }
        }
        Check.due("all are stuck", x.share(1), 1f);
        Check.due("none is stuck", x.share(0), 0f);
        Check.index("no tile", () -> x.share(6));
        Check.index("no tile", () -> x.share(MIN));
    }

    private static void promise33Hour() {
        Crossbarry x = new Crossbarry();
        Check.due("at first", x.hour(), 0);
        x.pass(7);
        x.pass(10000);
        Check.due("hour", x.hour(), 10007);
        Check.due("asked again", x.hour(), 10007);
    }
}
