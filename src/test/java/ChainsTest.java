/** Promises 27 to 30: chains that are run, and their cycles. */
public final class ChainsTest {
    public static void main(String[] args) {
        promises27And28Run();
        promises27And28RoundingAndClipping();
        promises27And28OutputsBecomeInputs();
        promise27RunsWhatIsRead();
        promises27And28Refused();
        promises29And30OneLayer();
        promises29And30Chains();
        promises29And30AllStages();
        promises29And30Refused();
        Check.finish();
    }

    private static void dueRun(String what, Crossbarry x, int layer, long vector, long due) {
        Check.due(what + ", run", x.run(layer, vector), due);
        Check.due(what + ", run ideally", x.runIdeal(layer, vector), due);
    }

    private static void dueCycles(String what, Crossbarry x, int layer, int many, int due) {
        Check.due(what + ", " + many + " vectors", x.cycles(layer, many), due);
        Check.due(what + ", " + many + " vectors, anew", x.cyclesAnew(layer, many), due);
    }

    private static void promises27And28Run() {
        Crossbarry x = new Crossbarry();
        x.layer(2, 2);
        x.layer(3, 1);
        x.weight(0, 0, 0, 3);
        x.weight(0, 1, 1, 5);
        x.weight(1, 0, 0, 7);
        x.weight(1, 1, 0, 2);
        x.weight(1, 2, 0, 100);
        x.place(0, 0);
        x.place(1, 1);
        dueRun("no chain", x, 0, 0x0304L, 12 + 256 * 15);
        x.next(0, 1);
        dueRun("a chain", x, 0, 0x0304L, 7 * 12 + 2 * 15);
        dueRun("all other inputs are 0", x, 0, 0xFF0101L, 31);
        dueRun("from the last layer on", x, 1, 0x010101L, 109);
        x.shift(1, 3);
        dueRun("the shift of the last layer too", x, 0, 0x0304L, (7 * 12 + 2 * 15) / 8);
        x.shift(0, 1);
        dueRun("the shift of the former layer", x, 0, 0x0304L, (7 * 6 + 2 * 7) / 8);
        x.next(0, -1);
        dueRun("no chain any more", x, 0, 0x0304L, 6 + 256 * 7);
    }

    private static void promises27And28RoundingAndClipping() {
        Crossbarry x = new Crossbarry();
        x.layer(1, 4);
        x.weight(0, 0, 0, 255);
        x.weight(0, 0, 1, -1);
        x.weight(0, 0, 2, 1);
        x.weight(0, 0, 3, 200);
        x.place(0, 0);
        dueRun("1", x, 0, 1, 0xC80100FFL);
        dueRun("2: clipped", x, 0, 2, 0xFF0200FFL);
        x.shift(0, 1);
        dueRun("3: rounded down", x, 0, 3, 0xFF0100FFL);
        x.shift(0, 20);
        dueRun("all shifted out, and 0 at least", x, 0, -1, 0);
    }

    private static void promises27And28OutputsBecomeInputs() {
        Crossbarry x = new Crossbarry();
        x.layer(4, 4);
        x.layer(8, 4);
        for (int k = 0; k < 4; k++) {
            x.weight(0, k, 3 - k, 1);
            x.weight(1, k, k, 2);
            x.weight(1, 4 + k, k, 255);
        }
        x.next(0, 1);
        x.place(0, 4);
        x.place(1, 3);
        dueRun("the output k as the input k", x, 0, 0x04030201L, 0x02040608L);
        dueRun("a great last output", x, 0, 0x00000040L, 0x80000000L);
        dueRun("results are not below 0", x, 1, 0xFF000000L, 0xFF000000L);
    }

    private static void promise27RunsWhatIsRead() {
        Crossbarry x = new Crossbarry();
        x.layer(1, 1);
        x.layer(1, 1);
        x.weight(0, 0, 0, 15);
        x.weight(1, 0, 0, 2);
        x.next(0, 1);
        x.place(0, 0);
        x.place(1, 1);
        x.converter(0, 4, 127);
        Check.due("rounded on the first tile", x.run(0, 1), 24);
        Check.due("ideally", x.runIdeal(0, 1), 30);
        x.offset(1, 0, 1);
        Check.due("an offset on the second one", x.run(0, 1), 255);
        Check.due("ideally", x.runIdeal(0, 1), 30);
    }

    private static void promises27And28Refused() {
        Crossbarry x = new Crossbarry();
        x.layer(1, 1);
        x.layer(1, 1);
        x.weight(0, 0, 0, 1);
        x.weight(1, 0, 0, 1);
        x.next(0, 1);
        Check.due("ideally, wherever layers are placed", x.runIdeal(0, 9), 9);
        Check.state("none is placed", () -> x.run(0, 9));
        x.place(0, 0);
        Check.state("the next one is not placed", () -> x.run(0, 9));
        x.place(1, 1);
        Check.due("both are placed", x.run(0, 9), 9);
        x.lift(0);
        Check.state("the first one is not placed", () -> x.run(0, 9));
        Check.due("from the next one on", x.run(1, 9), 9);
        Check.index("no layer", () -> x.run(2, 9));
        Check.index("no layer", () -> x.run(-1, 9));
        Check.index("no layer", () -> x.runIdeal(2, 9));
        Check.index("no layer", () -> x.runIdeal(-1, 9));
    }

    private static void promises29And30OneLayer() {
        Crossbarry x = new Crossbarry();
        for (int outputs = 1; outputs <= 4; outputs++) {
            x.layer(1, outputs);
            x.place(outputs - 1, outputs - 1);
        }
        int[] converters = {1, 2, 4, 8, 16};
        int[][] due = {{32, 16, 8, 8, 8}, {64, 32, 16, 8, 8}, {96, 48, 24, 16, 8}, {128, 64, 32, 16, 8}};
        for (int k = 0; k < 5; k++) {
            for (int layer = 0; layer < 4; layer++) {
                x.converters(layer, converters[k]);
                dueCycles("one layer", x, layer, 1, due[layer][k]);
                dueCycles("one layer", x, layer, 1000, 1000 * due[layer][k]);
            }
        }
    }

    private static void promises29And30Chains() {
        Crossbarry x = new Crossbarry();
        x.layer(1, 2);
        x.layer(2, 3);
        x.layer(3, 1);
        for (int layer = 0; layer < 3; layer++) {
            x.place(layer, layer);
        }
        x.next(0, 1);
        x.next(1, 2);
        // 16, 24 and 8 cycles
        dueCycles("the second one is slowest", x, 0, 1, 48);
        dueCycles("the second one is slowest", x, 0, 2, 72);
        dueCycles("the second one is slowest", x, 0, 10, 264);
        dueCycles("from the second one on", x, 1, 3, 80);
        x.converters(2, 1);
        dueCycles("the last one is slowest", x, 0, 3, 136);
        x.converters(0, 1);
        dueCycles("the first one is slowest", x, 0, 1000, 64 * 1000 + 56);
        x.next(1, -1);
        dueCycles("a shorter chain", x, 0, 2, 152);
    }

    private static void promises29And30AllStages() {
        Crossbarry x = new Crossbarry();
        for (int layer = 0; layer < 6; layer++) {
            x.layer(8, 4);
            x.place(layer, 5 - layer);
            x.converters(layer, 1);
            if (layer > 0) {
                x.next(layer - 1, layer);
            }
        }
        dueCycles("six stages", x, 0, 1, 768);
        dueCycles("six stages", x, 0, 1000, 128 * 1005);
        x.converters(3, 16);
        dueCycles("a fast one between", x, 0, 7, 5 * 128 + 8 + 6 * 128);
    }

    private static void promises29And30Refused() {
        Crossbarry x = new Crossbarry();
        x.layer(1, 1);
        x.layer(1, 1);
        x.next(0, 1);
        x.place(0, 0);
        int[] bad = {Integer.MIN_VALUE, -1, 0, 1001, Integer.MAX_VALUE};
        for (int many : bad) {
            Check.argument("many, and not placed", () -> x.cycles(0, many));
            Check.argument("many, and not placed", () -> x.cyclesAnew(0, many));
            Check.index("no layer, and many", () -> x.cycles(2, many));
            Check.index("no layer, and many", () -> x.cyclesAnew(-1, many));
        }
        Check.state("the next one is not placed", () -> x.cycles(0, 1));
        Check.state("the next one is not placed", () -> x.cyclesAnew(0, 1));
        Check.index("no layer", () -> x.cycles(2, 1));
        Check.index("no layer", () -> x.cyclesAnew(2, 1));
        x.place(1, 1);
        dueCycles("both are placed", x, 0, 1, 16);
        x.lift(0);
        Check.state("the first one is not placed", () -> x.cycles(0, 1));
        Check.state("the first one is not placed", () -> x.cyclesAnew(0, 1));
        dueCycles("from the next one on", x, 1, 1, 8);
    }
}
