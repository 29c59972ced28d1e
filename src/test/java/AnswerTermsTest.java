/**
 * Terms, "Answers": each sentence that names a boundary, on either side of it. Above each test stands the sentence that
 * it looks at.
 */
public final class AnswerTermsTest {
    private static final int[] COUNTS = {1, 16, -1, -16};

    public static void main(String[] args) {
        eachBitOfAVector();
        asANumber0To255();
        inputsThatALayerDoesNotHave();
        aTileAtFirst();
        inTheRowsOfThoseInputs();
        inThatColumn();
        whatTheCellsConductNow();
        theOffsetOnlyIfNotCalibrated();
        zeroAtLeast();
        dividedByTheStepRoundedDown();
        butTheTopAtMost();
        timesTheStep();
        allCurrentsAreRead();
        theTopAtFirstIsNeverReached();
        theAnswerOfFourColumns();
        theAnswerOfEightBits();
        theGreatestAnswers();
        theIdealAnswer();
        theIdealAnswerGoesByWeightsNow();
        boundsFromACurrentOf0();
        boundsToTheNeed();
        boundsOfAllCurrents();
        boundsOfFourColumns();
        theNeedIsForAllInputs();
        boundsGoByWeightsNow();
        boundsHoldForAllInputs();
        Check.finish();
    }

    /** A layer of one output with these weights, on tile 0. */
    private static Crossbarry placed(int... weights) {
        Crossbarry x = new Crossbarry();
        x.layer(weights.length, 1);
        for (int input = 0; input < weights.length; input++) {
            x.weight(0, input, 0, weights[input]);
        }
        x.place(0, 0);
        return x;
    }

    /** "the input k is told by its 8 bits from the bit 8 times k on, lowest first". */
    private static void eachBitOfAVector() {
        Crossbarry x = placed(1, -2, 4, -8, 16, -32, 64, -128);
        for (int bit = 0; bit < 64; bit++) {
            int weight = (1 << bit / 8) * (bit / 8 % 2 == 0 ? 1 : -1);
            int due = weight * (1 << bit % 8);
            Check.due("answer to bit " + bit, x.answer(0, 1L << bit, 0), due);
            Check.due("ideal answer to bit " + bit, x.ideal(0, 1L << bit, 0), due);
        }
    }

    /** "as a number 0 to 255". */
    private static void asANumber0To255() {
        Crossbarry x = placed(0, 0, 0, 0, 0, 0, 0, 1);
        for (int number = 0; number < 256; number++) {
            long vector = (long) number << 56;
            Check.due("answer to " + number, x.answer(0, vector, 0), number);
        }
        Crossbarry y = placed(1, 0, 0, 0, 0, 0, 0, 1);
        for (int number = 0; number < 256; number++) {
            Check.due("ideal answer to " + number, y.ideal(0, (long) number << 56, 0), number);
        }
        Check.due("all bits", y.ideal(0, -1L, 0), 510);
        Check.due("all bits", y.answer(0, -1L, 0), 510);
        Check.due("no bits", y.answer(0, 0, 0), 0);
        Check.due("none of the two", y.answer(0, 0x00FFFFFFFFFFFF00L, 0), 0);
    }

    /** "inputs that a layer does not have do not matter". */
    private static void inputsThatALayerDoesNotHave() {
        for (int inputs = 1; inputs <= 8; inputs++) {
            int[] weights = new int[inputs];
            java.util.Arrays.fill(weights, 3);
            Crossbarry x = placed(weights);
            // the rows that it does not have conduct too
            for (int row = inputs; row < 8; row++) {
                x.stick(0, row, 0, 15);
            }
            long beyond = inputs == 8 ? 0 : -1L << 8 * inputs;
            Check.due("none of its own", x.answer(0, beyond, 0), 0);
            Check.due("none of its own, ideal", x.ideal(0, beyond, 0), 0);
            Check.due("all", x.answer(0, -1L, 0), 3 * 255 * inputs);
            Check.due("all, ideal", x.ideal(0, -1L, 0), 3 * 255 * inputs);
            Check.due("all of its own", x.answer(0, ~beyond, 0), 3 * 255 * inputs);
            Check.due("run", x.run(0, beyond), 0);
            Check.due("run, ideal", x.runIdeal(0, beyond), 0);
        }
    }

    /** "A tile has a step, 1 at first, a top, 127 at first, .. an offset, 0 at first, and .. not, as at first". */
    private static void aTileAtFirst() {
        Crossbarry x = new Crossbarry();
        for (int tile = 0; tile < 6; tile++) {
            Check.due("step and top", x.converter(tile, 16, 1), 1127);
            for (int column = 0; column < 16; column++) {
                Check.due("offset", x.offset(tile, column, 3), 0);
            }
            Check.due("not calibrated", x.calibrate(tile, true), false);
        }
        for (int tile = 0; tile < 6; tile++) {
            Check.due("step and top then", x.converter(tile, 1, 1), 16001);
            for (int column = 0; column < 16; column++) {
                Check.due("offset then", x.offset(tile, column, 0), 3);
            }
            Check.due("calibrated then", x.calibrate(tile, false), true);
        }
    }

    /** "in the rows of those inputs of its layer that have this bit". */
    private static void inTheRowsOfThoseInputs() {
        Crossbarry x = placed(1, 2, 4);
        int[] sums = {0, 1, 2, 3, 4, 5, 6, 7};
        for (int set = 0; set < 8; set++) {
            long vector = (set & 1) | (set >> 1 & 1) << 8 | (set >> 2 & 1) << 16;
            Check.due("inputs " + set, x.answer(0, vector, 0), sums[set]);
            Check.due("inputs " + set + ", highest bit", x.answer(0, vector << 7, 0), 128 * sums[set]);
        }
        for (int row = 3; row < 8; row++) {
            x.stick(0, row, 0, 15);
        }
        Check.due("rows that no input has", x.answer(0, -1L, 0), 7 * 255);
        // an input has another row than its own number
        Crossbarry y = new Crossbarry();
        y.stick(0, 0, 0, 6);
        y.layer(2, 1);
        y.weight(0, 0, 0, 5);
        y.weight(0, 1, 0, 6);
        y.place(0, 0);
        y.lift(0);
        y.place(0, 0);
        Check.due("input 0 in row 1", y.rowOf(0, 0), 1);
        Check.due("input 1 in row 0", y.rowOf(0, 1), 0);
        Check.due("answer to input 0", y.answer(0, 1, 0), 5);
        Check.due("answer to input 1", y.answer(0, 0x100, 0), 6);
    }

    /** "the cells in that column". */
    private static void inThatColumn() {
        Crossbarry x = new Crossbarry();
        x.layer(1, 4);
        for (int output = 0; output < 4; output++) {
            x.weight(0, 0, output, 1 + output);
        }
        x.place(0, 0);
        for (int column = 0; column < 16; column++) {
            Crossbarry y = new Crossbarry();
            y.layer(1, 4);
            y.place(0, 0);
            y.stick(0, 0, column, 5);
            for (int output = 0; output < 4; output++) {
                Check.due("answer of its own", x.answer(0, 1, output), 1 + output);
                int due = column / 4 == output ? 5 * COUNTS[column % 4] : 0;
                Check.due("column " + column + ", output " + output, y.answer(0, 1, output), due);
            }
        }
    }

    /** "the sum of what the cells .. conduct now". */
    private static void whatTheCellsConductNow() {
        Crossbarry x = placed(10, 4, 9);
        x.stick(0, 2, 0, 9);
        x.drift(2);
        Check.due("at once", x.answer(0, 0x010101, 0), 23);
        x.pass(1);
        Check.due("an hour later", x.answer(0, 0x010101, 0), 23);
        x.pass(1);
        Check.due("two hours later", x.answer(0, 0x010101, 0), 21);
        x.pass(6);
        Check.due("eight hours later", x.answer(0, 0x010101, 0), 15);
        x.pass(2);
        Check.due("one is at 0", x.answer(0, 0x010101, 0), 14);
        x.drift(0);
        Check.due("without drift", x.answer(0, 0x010101, 0), 23);
    }

    /** "the latter only if the tile is not calibrated". */
    private static void theOffsetOnlyIfNotCalibrated() {
        for (int offset = -3; offset <= 3; offset++) {
            Crossbarry x = placed(5);
            x.offset(0, 0, offset);
            int atNone = Math.max(0, offset);
            Check.due("not calibrated, offset " + offset, x.answer(0, 1, 0), 5 + offset + 254 * atNone);
            x.calibrate(0, true);
            Check.due("calibrated, offset " + offset, x.answer(0, 1, 0), 5);
            x.calibrate(1, false);
            Check.due("another tile does not matter", x.answer(0, 1, 0), 5);
            x.calibrate(0, false);
            Check.due("not calibrated again", x.answer(0, 1, 0), 5 + offset + 254 * atNone);
        }
    }

    /** "together .. 0 at least". */
    private static void zeroAtLeast() {
        int[][] due = {{1, -1, 0}, {1, -2, 0}, {2, -1, 1}, {2, -2, 0}, {2, -3, 0}, {3, -3, 0}, {4, -3, 1}, {1, 0, 1}};
        for (int[] row : due) {
            Crossbarry x = placed(row[0]);
            x.offset(0, 0, row[1]);
            Check.due("current " + row[0] + ", offset " + row[1], x.answer(0, 1, 0), row[2]);
            Check.due("of all bits", x.answer(0, 255, 0), 255 * row[2]);
            Check.due("without current", x.answer(0, 0, 0), 0);
        }
        Crossbarry y = placed(0);
        for (int column = 0; column < 4; column++) {
            y.offset(0, column, -1);
        }
        Check.due("nothing below 0", y.answer(0, 255, 0), 0);
        y.converter(0, 16, 127);
        Check.due("nothing below 0 with a step", y.answer(0, 255, 0), 0);
    }

    /** "divided by the step, rounded down". */
    private static void dividedByTheStepRoundedDown() {
        for (int step = 1; step <= 15; step++) {
            for (int current = step - 1; current <= Math.min(15, step + 1); current++) {
                Crossbarry x = placed(current);
                x.converter(0, step, 127);
                int due = current < step ? 0 : current / step * step;
                Check.due("current " + current + ", step " + step, x.answer(0, 1, 0), due);
            }
        }
        Crossbarry y = placed(15, 15, 2);
        y.converter(0, 16, 127);
        Check.due("15 by 16", y.answer(0, 1, 0), 0);
        Check.due("17 by 16", y.answer(0, 0x010001, 0), 16);
        Check.due("30 by 16", y.answer(0, 0x0101, 0), 16);
        Check.due("32 by 16", y.answer(0, 0x010101, 0), 32);
    }

    /** "but the top at most": it is the quotient that the top is for. */
    private static void butTheTopAtMost() {
        for (int top = 1; top <= 14; top++) {
            for (int current = top - 1; current <= top + 1; current++) {
                Crossbarry x = placed(current);
                x.converter(0, 1, top);
                Check.due("current " + current + ", top " + top, x.answer(0, 1, 0), Math.min(current, top));
            }
        }
        int[][] due = {{3, 3, 9}, {3, 4, 12}, {3, 5, 15}, {3, 6, 15}, {7, 1, 7}, {7, 2, 14}, {7, 3, 14}, {15, 1, 15}, {8, 1, 8}};
        for (int[] row : due) {
            Crossbarry x = placed(15);
            x.converter(0, row[0], row[1]);
            Check.due("15 by " + row[0] + ", top " + row[1], x.answer(0, 1, 0), row[2]);
        }
    }

    /** "times the step". */
    private static void timesTheStep() {
        Crossbarry x = placed(15, 15, 15, 15, 15, 15, 15, 15);
        long all = 0x0101010101010101L;
        Check.due("120 by 1", x.answer(0, all, 0), 120);
        for (int step = 1; step <= 16; step++) {
            x.converter(0, step, 1);
            Check.due("a top of 1, step " + step, x.answer(0, all, 0), step);
            x.converter(0, step, 7);
            Check.due("a top of 7, step " + step, x.answer(0, all, 0), 7 * step);
            x.converter(0, step, 127);
            Check.due("step " + step, x.answer(0, all, 0), 120 - 120 % step);
        }
    }

    private static int readOf(int current, int offset, int step, int top) {
        int together = Math.max(0, current + offset);
        int steps = 0;
        while (steps < top && (steps + 1) * step <= together) {
            steps++;
        }
        return steps * step;
    }

    /** "What is read is this": all currents 0 to 120, with all offsets and steps. */
    private static void allCurrentsAreRead() {
        for (int step = 1; step <= 16; step++) {
            for (int offset = -3; offset <= 3; offset++) {
                for (int top : new int[] {1, 2, 6, 50, 127}) {
                    Crossbarry x = placed(1, 2, 4, 8, 15, 15, 15, 15);
                    x.converter(0, step, top);
                    x.offset(0, 0, offset);
                    int atNone = readOf(0, offset, step, top);
                    for (int current = 0; current <= 75; current++) {
                        String what = "current " + current + ", offset " + offset + ", step " + step + ", top " + top;
                        int due = readOf(current, offset, step, top) + 254 * atNone;
                        Check.due(what, x.answer(0, vectorOf(current), 0), due);
                    }
                }
            }
        }
    }

    /** The inputs that conduct a current of 0 to 75 together, with weights of 1, 2, 4, 8 and four times 15. */
    private static long vectorOf(int current) {
        long vector = 0;
        int left = current;
        for (int input = 7; input >= 4; input--) {
            if (left >= 15) {
                left -= 15;
                vector |= 1L << 8 * input;
            }
        }
        for (int input = 0; input < 4; input++) {
            vector |= (long) (left >> input & 1) << 8 * input;
        }
        return vector;
    }

    private static void theTopAtFirstIsNeverReached() {
        Crossbarry x = placed(255, 255, 255, 255, 255, 255, 255, 255);
        x.offset(0, 0, 3);
        Check.due("120 and 3", x.answer(0, 0x0101010101010101L, 0), 123 + 16 * 120 + 254 * 3);
        x.converter(0, 1, 123);
        Check.due("a top of 123", x.answer(0, 0x0101010101010101L, 0), 123 + 16 * 120 + 254 * 3);
        x.converter(0, 1, 122);
        Check.due("a top of 122", x.answer(0, 0x0101010101010101L, 0), 122 + 16 * 120 + 254 * 3);
        x.converter(0, 1, 119);
        Check.due("a top of 119", x.answer(0, 0x0101010101010101L, 0), 119 + 16 * 119 + 254 * 3);
    }

    /** "what is read of the low plus column and 16 times that of the high plus column, less .. low minus .. high minus". */
    private static void theAnswerOfFourColumns() {
        for (int kind = 0; kind < 4; kind++) {
            for (int output = 0; output < 4; output++) {
                Crossbarry x = new Crossbarry();
                x.layer(1, 4);
                x.place(0, 2);
                x.offset(2, 4 * output + kind, 3);
                for (int asked = 0; asked < 4; asked++) {
                    int due = asked == output ? 255 * 3 * COUNTS[kind] : 0;
                    Check.due("column " + (4 * output + kind) + ", output " + asked, x.answer(0, 0, asked), due);
                }
            }
        }
    }

    /** "the sum, over the bits b, of 2 to the power of b": each bit is read for itself. */
    private static void theAnswerOfEightBits() {
        Crossbarry x = placed(3, 6);
        x.converter(0, 4, 127);
        // 3 alone is read as 0, 6 alone as 4, both as 8
        for (int bit = 0; bit < 8; bit++) {
            Check.due("bit " + bit + " of the one", x.answer(0, 1L << bit, 0), 0);
            Check.due("bit " + bit + " of the other", x.answer(0, 0x100L << bit, 0), 4 << bit);
            Check.due("bit " + bit + " of both", x.answer(0, 0x101L << bit, 0), 8 << bit);
        }
        Check.due("unlike bits", x.answer(0, 0x55AAL, 0), 0x55 * 4);
        Check.due("all bits of both", x.answer(0, 0xFFFFL, 0), 255 * 8);
    }

    private static void theGreatestAnswers() {
        Crossbarry x = placed(255, 255, 255, 255, 255, 255, 255, 255);
        Check.due("greatest", x.answer(0, -1L, 0), 8 * 255 * 255);
        Check.due("greatest ideal", x.ideal(0, -1L, 0), 8 * 255 * 255);
        Check.due("upper bound", x.bound(0, 0, true), 0);
        Crossbarry y = placed(-255, -255, -255, -255, -255, -255, -255, -255);
        Check.due("least", y.answer(0, -1L, 0), -8 * 255 * 255);
        Check.due("least ideal", y.ideal(0, -1L, 0), -8 * 255 * 255);
    }

    /** "The ideal answer is the sum of its weights, each times its input." */
    private static void theIdealAnswer() {
        Crossbarry x = new Crossbarry();
        x.layer(8, 4);
        for (int at = 0; at < 32; at++) {
            x.weight(0, at / 4, at % 4, at % 2 == 0 ? 255 - at : at - 255);
        }
        long vector = 0xFF80010203FE7F00L;
        int[] inputs = {0x00, 0x7F, 0xFE, 0x03, 0x02, 0x01, 0x80, 0xFF};
        for (int output = 0; output < 4; output++) {
            int due = 0;
            for (int input = 0; input < 8; input++) {
                int at = 4 * input + output;
                due += inputs[input] * (at % 2 == 0 ? 255 - at : at - 255);
            }
            Check.due("output " + output, x.ideal(0, vector, output), due);
            Check.due("nothing", x.ideal(0, 0, output), 0);
        }
    }

    private static void theIdealAnswerGoesByWeightsNow() {
        Crossbarry x = placed(5);
        x.stick(0, 0, 1, 7);
        x.offset(0, 0, 3);
        x.weight(0, 0, 0, 6);
        Check.due("not by cells, nor by what is read", x.ideal(0, 10, 0), 60);
        x.lift(0);
        Check.due("not placed", x.ideal(0, 10, 0), 60);
    }

    private static void dueBounds(String what, Crossbarry x, int lower, int upper) {
        Check.due(what + ", lower", x.bound(0, 0, false), 255 * lower);
        Check.due(what + ", upper", x.bound(0, 0, true), 255 * upper);
    }

    /** "over all whole currents from 0": the least or the greatest error is at 0 alone. */
    private static void boundsFromACurrentOf0() {
        Crossbarry x = placed(2);
        x.converter(0, 3, 127);
        x.offset(0, 0, 3);
        dueBounds("3 more at 0, 1 more at 2", x, 1, 3);
        Crossbarry y = placed(1);
        y.converter(0, 2, 127);
        y.offset(0, 0, 1);
        dueBounds("exact at 0, 1 more at 1", y, 0, 1);
        Crossbarry z = placed(0);
        z.offset(0, 0, 3);
        dueBounds("a need of 0 has the current 0", z, 3, 3);
        z.offset(0, 0, -3);
        dueBounds("0 at least", z, 0, 0);
    }

    /** "to the need": the least or the greatest error is at the need alone. */
    private static void boundsToTheNeed() {
        Crossbarry x = placed(3);
        x.converter(0, 4, 127);
        dueBounds("3 less at 3", x, -3, 0);
        x.weight(0, 0, 0, 4);
        dueBounds("exact at 4", x, -3, 0);
        x.weight(0, 0, 0, 2);
        dueBounds("2 less at 2", x, -2, 0);
        x.offset(0, 0, 2);
        dueBounds("2 more at 2", x, -1, 2);
        x.weight(0, 0, 0, 1);
        dueBounds("1 less at 1", x, -1, 0);
        Crossbarry y = placed(10);
        y.converter(0, 1, 9);
        dueBounds("clipped at 10", y, -1, 0);
        y.weight(0, 0, 0, 9);
        dueBounds("not clipped at 9", y, 0, 0);
    }

    private static void boundsOfAllCurrents() {
        for (int step = 1; step <= 16; step++) {
            for (int offset = -3; offset <= 3; offset++) {
                for (int top : new int[] {1, 3, 127}) {
                    Crossbarry x = placed(0);
                    x.converter(0, step, top);
                    x.offset(0, 0, offset);
                    dueBoundsOfNeeds(x, offset, step, top);
                }
            }
        }
    }

    private static void dueBoundsOfNeeds(Crossbarry x, int offset, int step, int top) {
        int least = readOf(0, offset, step, top);
        int greatest = least;
        for (int need = 0; need < 16; need++) {
            int error = readOf(need, offset, step, top) - need;
            least = Math.min(least, error);
            greatest = Math.max(greatest, error);
            x.weight(0, 0, 0, need);
            dueBounds("need " + need + ", offset " + offset + ", step " + step + ", top " + top, x, least, greatest);
        }
    }

    /** "the least error of the low plus column and 16 times .. less the greatest error of the low minus column ..". */
    private static void boundsOfFourColumns() {
        for (int kind = 0; kind < 4; kind++) {
            for (int output = 0; output < 4; output++) {
                Crossbarry x = new Crossbarry();
                x.layer(1, 4);
                int size = kind % 2 == 0 ? 2 : 0x20;
                x.weight(0, 0, output, kind < 2 ? size : -size);
                x.place(0, 1);
                x.offset(1, 4 * output + kind, 2);
                x.converter(1, 4, 127);
                // errors from -1 to 2 in this column, none in the others
                int atLeast = 255 * (kind < 2 ? -1 : -2) * Math.abs(COUNTS[kind]);
                int atMost = 255 * (kind < 2 ? 2 : 1) * Math.abs(COUNTS[kind]);
                for (int asked = 0; asked < 4; asked++) {
                    Check.due("lower, kind " + kind, x.bound(0, asked, false), asked == output ? atLeast : 0);
                    Check.due("upper, kind " + kind, x.bound(0, asked, true), asked == output ? atMost : 0);
                }
                x.calibrate(1, true);
                Check.due("calibrated, lower", x.bound(0, output, false), 255 * (kind < 2 ? -2 : 0) * Math.abs(COUNTS[kind]));
                Check.due("calibrated, upper", x.bound(0, output, true), 255 * (kind < 2 ? 0 : 2) * Math.abs(COUNTS[kind]));
            }
        }
    }

    /** "its need is the sum of the states that are needed there for all inputs". */
    private static void theNeedIsForAllInputs() {
        for (int inputs = 1; inputs <= 8; inputs++) {
            int[] weights = new int[inputs];
            java.util.Arrays.fill(weights, 15);
            Crossbarry x = placed(weights);
            x.converter(0, 1, 14);
            dueBounds(inputs + " inputs of 15, 14 at most", x, 14 - 15 * inputs, 0);
            x.converter(0, 1, 15 * inputs);
            dueBounds(inputs + " inputs of 15, all at most", x, 0, 0);
            x.converter(0, 1, 15 * inputs - 1);
            dueBounds(inputs + " inputs of 15, 1 less at most", x, -1, 0);
        }
        Crossbarry y = placed(15, -15, 0x30, -0x70);
        y.converter(0, 1, 1);
        dueBounds("each column for itself", y, -14 - 16 * 2, 14 + 16 * 6);
    }

    private static void boundsGoByWeightsNow() {
        Crossbarry x = placed(8);
        x.converter(0, 1, 1);
        dueBounds("8", x, -7, 0);
        x.weight(0, 0, 0, 3);
        dueBounds("3, not loaded", x, -2, 0);
        x.stick(0, 0, 0, 0);
        dueBounds("what is stuck does not matter", x, -2, 0);
        x.drift(1);
        x.pass(100);
        dueBounds("what has drifted does not matter", x, -2, 0);
        x.weight(0, 0, 0, -3);
        dueBounds("-3", x, 0, 2);
    }

    /** "bounds that hold for all inputs": of a layer that is true. */
    private static void boundsHoldForAllInputs() {
        for (int step = 1; step <= 16; step++) {
            Crossbarry x = placed(100, -37, 250, -255, 16);
            x.converter(0, step, 20);
            for (int column = 0; column < 4; column++) {
                x.offset(0, column, (step + column) % 7 - 3);
            }
            long vector = 0x123456789ABCDEFL;
            for (int time = 0; time < 100; time++) {
                vector = vector * 6364136223846793005L + 1442695040888963407L;
                long shown = vector ^ vector >>> 32;
                int error = x.answer(0, shown, 0) - x.ideal(0, shown, 0);
                boolean isWithin = x.bound(0, 0, false) <= error && error <= x.bound(0, 0, true);
                Check.due("within the bounds", isWithin, true);
            }
        }
    }
}
