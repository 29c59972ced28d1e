/**
 * Terms, "Chains, cycles": each sentence that names a boundary, on either side of it. Above each test stands the
 * sentence that it looks at.
 */
public final class ChainTermsTest {
    public static void main(String[] args) {
        aNextLayerHasAHigherNumber();
        asManyInputsOrMore();
        dividedByThePowerOfTheShift();
        roundedDownAlsoBelow0();
        zeroAtLeast();
        but255AtMost();
        theShiftOfTheFormerLayer();
        theOutputKAsTheInputK();
        allOtherInputsAre0();
        theResultIsAVector();
        chainsOfOneToSixLayers();
        aChainIsEntersAnywhere();
        theConvertersAtFirst();
        dividedByTheConvertersRoundedUp();
        cyclesOfOneVector();
        asSoonAsTheFirstIsFree();
        asLongAsItIsNotItStays();
        inTheSameCycle();
        allOrdersOfThreeStages();
        oneTo1000Vectors();
        convertersAsTheyAreNow();
        Check.finish();
    }

    private static void dueRun(String what, Crossbarry x, int layer, long vector, long due) {
        Check.due(what + ", run", x.run(layer, vector), due);
        Check.due(what + ", run ideally", x.runIdeal(layer, vector), due);
    }

    private static void dueCycles(String what, Crossbarry x, int layer, int many, int due) {
        Check.due(what + ", " + many + " vectors", x.cycles(layer, many), due);
        Check.due(what + ", " + many + " vectors, anew", x.cyclesAnew(layer, many), due);
    }

    /** One input and one output of this weight and shift, on tile 0. */
    private static Crossbarry placed(int weight, int shift) {
        Crossbarry x = new Crossbarry();
        x.layer(1, 1);
        x.weight(0, 0, 0, weight);
        x.shift(0, shift);
        x.place(0, 0);
        return x;
    }

    /** "a next layer has a higher number". */
    private static void aNextLayerHasAHigherNumber() {
        Crossbarry x = new Crossbarry();
        for (int number = 0; number < 3; number++) {
            x.layer(1, 1);
        }
        Check.due("1 more", x.next(1, 2), -1);
        Check.argument("the same", () -> x.next(1, 1));
        Check.argument("1 less", () -> x.next(1, 0));
        Check.due("2 more", x.next(0, 2), -1);
        Check.due("still 1 more", x.next(1, 2), 2);
    }

    /** "and as many inputs as the layer has outputs, or more". */
    private static void asManyInputsOrMore() {
        Crossbarry x = new Crossbarry();
        x.layer(1, 3);
        x.layer(2, 1);
        x.layer(3, 1);
        x.layer(4, 1);
        Check.argument("1 less", () -> x.next(0, 1));
        Check.due("none still", x.next(0, 2), -1);
        Check.due("as many", x.next(0, 3), 2);
        Check.due("1 more", x.next(0, 2), 3);
    }

    /** "each divided by 2 to the power of the shift", "shift: 0 to 20". */
    private static void dividedByThePowerOfTheShift() {
        for (int shift = 0; shift <= 20; shift++) {
            Crossbarry x = placed(255, shift);
            for (int input : new int[] {0, 1, 2, 127, 128, 254, 255}) {
                long due = Math.min(255, 255 * input / (1 << shift));
                dueRun("255 times " + input + ", shift " + shift, x, 0, input, due);
            }
        }
        Crossbarry y = new Crossbarry();
        y.layer(8, 1);
        for (int input = 0; input < 8; input++) {
            y.weight(0, input, 0, 255);
        }
        y.place(0, 0);
        y.shift(0, 18);
        dueRun("520200 by 262144", y, 0, -1L, 1);
        y.shift(0, 19);
        dueRun("520200 by 524288", y, 0, -1L, 0);
        y.shift(0, 17);
        dueRun("520200 by 131072", y, 0, -1L, 3);
        y.shift(0, 20);
        dueRun("520200 by 1048576", y, 0, -1L, 0);
        y.shift(0, 11);
        dueRun("520200 by 2048", y, 0, -1L, 254);
        y.shift(0, 10);
        dueRun("520200 by 1024", y, 0, -1L, 255);
    }

    /** "rounded down, also below 0". */
    private static void roundedDownAlsoBelow0() {
        Crossbarry x = placed(1, 2);
        for (int input = 0; input < 256; input++) {
            Check.due("by 4", x.runIdeal(0, input), input / 4);
        }
        Crossbarry y = placed(-1, 2);
        for (int input = 0; input < 256; input++) {
            Check.due("below 0", y.runIdeal(0, input), 0);
        }
    }

    /** "but 0 at least". */
    private static void zeroAtLeast() {
        for (int shift = 0; shift <= 20; shift++) {
            Crossbarry x = new Crossbarry();
            x.layer(2, 2);
            x.weight(0, 0, 0, 1);
            x.weight(0, 1, 0, -1);
            x.weight(0, 1, 1, -255);
            x.place(0, 0);
            x.shift(0, shift);
            dueRun("-1 and -255", x, 0, 0x0100, 0);
            dueRun("0 and -255", x, 0, 0x0101, 0);
            dueRun("1 and -255", x, 0, 0x0102, shift == 0 ? 1 : 0);
            dueRun("-255 and -65025", x, 0, 0xFF00, 0);
            dueRun("255 and 0", x, 0, 0x00FF, 255 >> shift);
        }
    }

    /** "and 255 at most". */
    private static void but255AtMost() {
        Crossbarry x = new Crossbarry();
        x.layer(2, 1);
        x.weight(0, 0, 0, 1);
        x.weight(0, 1, 0, 1);
        x.place(0, 0);
        dueRun("254", x, 0, 0xFFL - 1, 254);
        dueRun("255", x, 0, 0xFFL, 255);
        dueRun("256", x, 0, 0x01FFL, 255);
        dueRun("510", x, 0, 0xFFFFL, 255);
        x.shift(0, 1);
        dueRun("510 by 2", x, 0, 0xFFFFL, 255);
        dueRun("509 by 2", x, 0, 0xFEFFL, 254);
        x.weight(0, 0, 0, 2);
        x.load(0);
        dueRun("511 by 2", x, 0, 0x01FFL, 255);
        dueRun("512 by 2", x, 0, 0x02FFL, 255);
        dueRun("509 by 2", x, 0, 0x01FEL, 254);
    }

    /** "the shift of the former layer", and "what comes of the last layer .. likewise". */
    private static void theShiftOfTheFormerLayer() {
        Crossbarry x = new Crossbarry();
        for (int layer = 0; layer < 3; layer++) {
            x.layer(1, 1);
            x.weight(layer, 0, 0, 8);
            x.place(layer, layer);
        }
        x.next(0, 1);
        x.next(1, 2);
        x.shift(0, 2);
        dueRun("3 times 8 by 4, times 8", x, 0, 3, 255);
        x.shift(1, 1);
        dueRun("3 times 8 by 4, times 8 by 2, times 8", x, 0, 3, 192);
        x.shift(2, 3);
        dueRun("and by 8", x, 0, 3, 24);
        dueRun("from the second on", x, 1, 3, 12);
        dueRun("from the third on", x, 2, 3, 3);
    }

    /** "the output k as the input k". */
    private static void theOutputKAsTheInputK() {
        for (int output = 0; output < 4; output++) {
            Crossbarry x = new Crossbarry();
            x.layer(1, 4);
            x.layer(4, 4);
            x.weight(0, 0, output, 1);
            for (int input = 0; input < 4; input++) {
                x.weight(1, input, 3 - input, 1 + input);
            }
            x.next(0, 1);
            x.place(0, 0);
            x.place(1, 1);
            dueRun("through input " + output, x, 0, 9, (9L * (1 + output)) << 8 * (3 - output));
        }
    }

    /** "all other inputs are 0". */
    private static void allOtherInputsAre0() {
        for (int inputs = 1; inputs <= 8; inputs++) {
            Crossbarry x = new Crossbarry();
            x.layer(8, 1);
            x.layer(inputs, 1);
            for (int input = 0; input < 8; input++) {
                x.weight(0, input, 0, 1);
                if (input < inputs) {
                    x.weight(1, input, 0, input == 0 ? 1 : 100);
                }
            }
            x.next(0, 1);
            x.place(0, 5);
            x.place(1, 4);
            dueRun("the inputs of the first one are gone", x, 0, 0x0101010101010101L, 8);
            dueRun("clipped", x, 0, -1L, 255);
        }
    }

    /** "is the result, as a vector": 8 bits of each output, and nothing above. */
    private static void theResultIsAVector() {
        long[] due = {0xFFL, 0xFFFFL, 0xFFFFFFL, 0xFFFFFFFFL};
        for (int outputs = 1; outputs <= 4; outputs++) {
            Crossbarry x = new Crossbarry();
            x.layer(1, outputs);
            for (int output = 0; output < outputs; output++) {
                x.weight(0, 0, output, 1);
            }
            x.place(0, 0);
            dueRun("all 255", x, 0, 255, due[outputs - 1]);
            dueRun("all 0", x, 0, 0, 0);
            dueRun("all 128", x, 0, 128, 0x80808080L & due[outputs - 1]);
            dueRun("all 1", x, 0, 1, 0x01010101L & due[outputs - 1]);
        }
    }

    private static Crossbarry chain(int layers) {
        Crossbarry x = new Crossbarry();
        for (int layer = 0; layer < layers; layer++) {
            x.layer(1, 1);
            x.weight(layer, 0, 0, 2);
            x.place(layer, layer);
            if (layer > 0) {
                x.next(layer - 1, layer);
            }
        }
        return x;
    }

    /** "from a layer to its next one, and so on". */
    private static void chainsOfOneToSixLayers() {
        for (int layers = 1; layers <= 6; layers++) {
            Crossbarry x = chain(layers);
            dueRun(layers + " layers", x, 0, 3, 3L << layers);
            for (int first = 0; first < layers; first++) {
                dueRun("from " + first + " of " + layers + " layers", x, first, 1, 1L << layers - first);
                dueCycles("from " + first + " of " + layers + " layers", x, first, 1, 8 * (layers - first));
                dueCycles("from " + first + " of " + layers + " layers", x, first, 9, 8 * (layers - first + 8));
            }
        }
    }

    /** Chains that meet, and one that leaves layers out. */
    private static void aChainIsEntersAnywhere() {
        Crossbarry x = new Crossbarry();
        for (int layer = 0; layer < 5; layer++) {
            x.layer(1, 1);
            x.weight(layer, 0, 0, 1 + layer);
            x.place(layer, layer);
        }
        x.next(0, 4);
        x.next(1, 2);
        x.next(2, 4);
        dueRun("0 and 4", x, 0, 2, 2 * 5);
        dueRun("1, 2 and 4", x, 1, 2, 2 * 2 * 3 * 5);
        dueRun("3 alone", x, 3, 2, 2 * 4);
        dueCycles("0 and 4", x, 0, 1, 16);
        dueCycles("1, 2 and 4", x, 1, 1, 24);
        dueCycles("3 alone", x, 3, 1, 8);
        x.next(2, -1);
        dueRun("1 and 2", x, 1, 2, 2 * 2 * 3);
        dueCycles("1 and 2", x, 1, 1, 16);
    }

    /** "A tile has 1, 2, 4, 8 or 16 converters, 4 at first." */
    private static void theConvertersAtFirst() {
        for (int tile = 0; tile < 6; tile++) {
            for (int outputs = 1; outputs <= 4; outputs++) {
                Crossbarry x = new Crossbarry();
                x.layer(8, outputs);
                x.place(0, tile);
                dueCycles("4 converters", x, 0, 1, 8 * outputs);
            }
            Check.due("as is told", new Crossbarry().converters(tile, 1), 4);
        }
    }

    /** "8 times this number of cycles: 4 times its outputs, divided by the converters of its tile, rounded up". */
    private static void dividedByTheConvertersRoundedUp() {
        for (int outputs = 1; outputs <= 4; outputs++) {
            for (int converters = 1; converters <= 16; converters *= 2) {
                Crossbarry x = new Crossbarry();
                x.layer(3, outputs);
                x.place(0, 1);
                x.converters(1, converters);
                int turns = 0;
                for (int read = 0; read < 4 * outputs; read += converters) {
                    turns++;
                }
                dueCycles(outputs + " outputs, " + converters + " converters", x, 0, 1, 8 * turns);
            }
        }
    }

    /** A chain whose stages take 8 times these turns: 1 to 4 turns by 1 to 4 outputs. */
    private static Crossbarry stages(int... turns) {
        Crossbarry x = new Crossbarry();
        for (int layer = 0; layer < turns.length; layer++) {
            x.layer(4, turns[layer]);
            x.place(layer, layer);
            if (layer > 0) {
                x.next(layer - 1, layer);
            }
        }
        return x;
    }

    /** "from the entering of the first one .. till the last one is done": one vector. */
    private static void cyclesOfOneVector() {
        dueCycles("one stage", stages(3), 0, 1, 24);
        dueCycles("two stages", stages(3, 1), 0, 1, 32);
        dueCycles("two stages", stages(1, 3), 0, 1, 32);
        dueCycles("six stages", stages(1, 2, 3, 4, 3, 2), 0, 1, 120);
    }

    /** "each enters the first layer as soon as that is free". */
    private static void asSoonAsTheFirstIsFree() {
        Crossbarry x = stages(3, 1);
        // the first one is at 0 to 24 and 24 to 32, the second one at 24 to 48 and 48 to 56
        dueCycles("a slow one ahead", x, 0, 2, 56);
        dueCycles("a slow one ahead", x, 0, 3, 80);
        dueCycles("one stage", stages(2), 0, 2, 32);
    }

    /** "as long as it is not, it stays, and the one ahead is not free". */
    private static void asLongAsItIsNotItStays() {
        Crossbarry x = stages(1, 3);
        // the second vector is done in the first layer at 16, stays there till 32, and is done at 56
        dueCycles("a slow one behind", x, 0, 2, 56);
        // the third one enters the first layer at 32 alone
        dueCycles("a slow one behind", x, 0, 3, 80);
        Crossbarry y = stages(1, 1, 4, 1);
        dueCycles("held up through two stages", y, 0, 1, 56);
        dueCycles("held up through two stages", y, 0, 2, 88);
        dueCycles("held up through two stages", y, 0, 5, 184);
    }

    /** "is free at once for the next vector, in the same cycle". */
    private static void inTheSameCycle() {
        dueCycles("two like stages", stages(1, 1), 0, 2, 24);
        dueCycles("two like stages", stages(1, 1), 0, 3, 32);
        dueCycles("six like stages", stages(1, 1, 1, 1, 1, 1), 0, 2, 56);
        dueCycles("six like stages", stages(4, 4, 4, 4, 4, 4), 0, 10, 15 * 32);
        dueCycles("one stage", stages(4), 0, 10, 320);
    }

    /** By the cycles in which each vector leaves each stage. */
    private static int cyclesOf(int[] turns, int many) {
        int last = turns.length - 1;
        int[] free = new int[turns.length];
        for (int vector = 0; vector < many; vector++) {
            int entered = free[0];
            for (int stage = 0; stage <= last; stage++) {
                int done = entered + 8 * turns[stage];
                free[stage] = stage < last ? Math.max(done, free[stage + 1]) : done;
                entered = free[stage];
            }
        }
        return free[last];
    }

    private static void allOrdersOfThreeStages() {
        for (int code = 0; code < 64; code++) {
            int[] turns = {code % 4 + 1, code / 4 % 4 + 1, code / 16 + 1};
            Crossbarry x = stages(turns);
            for (int many = 1; many <= 9; many++) {
                dueCycles("turns " + java.util.Arrays.toString(turns), x, 0, many, cyclesOf(turns, many));
            }
        }
    }

    /** "many: 1 to 1000". */
    private static void oneTo1000Vectors() {
        Crossbarry x = new Crossbarry();
        int[] due = {16 * 8, 8 * 8, 4 * 8, 2 * 8, 8};
        for (int layer = 0; layer < 5; layer++) {
            x.layer(4, 4);
            x.place(layer, layer);
            x.converters(layer, 1 << layer);
            if (layer > 0) {
                x.next(layer - 1, layer);
            }
        }
        dueCycles("1", x, 0, 1, 128 + 64 + 32 + 16 + 8);
        dueCycles("2", x, 0, 2, 128 + 248);
        dueCycles("999", x, 0, 999, 998 * 128 + 248);
        dueCycles("1000", x, 0, 1000, 999 * 128 + 248);
        for (int layer = 4; layer >= 0; layer--) {
            int rest = 0;
            for (int further = layer; further < 5; further++) {
                rest += due[further];
            }
            dueCycles("1000 from layer " + layer, x, layer, 1000, 999 * due[layer] + rest);
        }
    }

    private static void convertersAsTheyAreNow() {
        Crossbarry x = stages(4, 4);
        dueCycles("4 converters each", x, 0, 2, 96);
        x.converters(1, 16);
        dueCycles("4 and 16", x, 0, 2, 72);
        x.converters(0, 1);
        dueCycles("1 and 16", x, 0, 2, 264);
        x.converters(2, 1);
        dueCycles("another tile does not matter", x, 0, 2, 264);
        x.lift(1);
        x.place(1, 2);
        dueCycles("1 and 1", x, 0, 2, 384);
    }
}
