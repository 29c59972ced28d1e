/**
 * A machine that reckons where it remembers: tiles of cells that conduct by states, pulses that
 * write and wear them out, cells that drift and stick, layers of weights spread over cells and
 * signs, rows chosen so that known faults do least harm, inputs bit by bit, converters that round
 * and clip, bounds that hold for all inputs, chains of layers, and cycles of a pipeline.
 */
public final class Crossbarry {
    /** There is none. */
    public static final int NONE = -1;

    private static final int TILES = 6;
    private static final int ROWS = 8;
    private static final int COLUMNS = 16;
    private static final int CELLS = ROWS * COLUMNS;
    private static final int STATES = 16;
    private static final int MOST_PULSES = 16;

    private static final int LAYERS = 6;
    private static final int INPUTS = 8;
    private static final int OUTPUTS = 4;
    private static final int BITS = 8;
    private static final int GREATEST_INPUT = 255;
    private static final int GREATEST_WEIGHT = 255;

    /** The columns of an output: low plus, high plus, low minus, high minus; what each counts. */
    private static final int[] FACTORS = {1, 16, -1, -16};
    private static final int KINDS = 4;

    private static final int LAST_HOUR = 1000000;
    private static final int MOST_VECTORS = 1000;
    /** Far above what 1000 vectors need in 6 layers of at most 128 cycles each. */
    private static final int MOST_CYCLES = 1000000;

    private final Setting setting = new Setting();
    private final Tile[] tiles = new Tile[TILES];
    private final Layer[] layers = new Layer[LAYERS];
    private final Seating seating = new Seating();
    private final Pipeline pipeline = new Pipeline();
    private int layerCount = 0;

    /** No layers, no faults. */
    public Crossbarry() {
        for (int tile = 0; tile < TILES; tile++) {
            tiles[tile] = new Tile(tile);
        }
    }

    // ---- layers

    /** Tells a layer. */
    public int layer(int inputs, int outputs) throws IllegalArgumentException, IllegalStateException {
        checkArgument(inputs, 1, INPUTS);
        checkArgument(outputs, 1, OUTPUTS);
        if (layerCount >= LAYERS) {
            throw new IllegalStateException("there are 6 layers");
        }
        layers[layerCount] = new Layer(layerCount, inputs, outputs);
        layerCount++;
        return layerCount - 1;
    }

    /** Tells a weight; cells do not change by that. */
    public int weight(int layer, int input, int output, int weight)
            throws IndexOutOfBoundsException, IllegalArgumentException {
        Layer told = layerAt(layer);
        checkIndex(input, told.inputs);
        checkIndex(output, told.outputs);
        checkArgument(weight, -GREATEST_WEIGHT, GREATEST_WEIGHT);
        int before = told.weightOf(input, output);
        told.tellWeight(input, output, weight);
        return before;
    }

    /** Tells a shift. */
    public int shift(int layer, int shift) throws IndexOutOfBoundsException, IllegalArgumentException {
        Layer told = layerAt(layer);
        checkArgument(shift, 0, 20);
        int before = told.shiftBy;
        told.shiftBy = shift;
        return before;
    }

    /** Tells the next layer. */
    public int next(int layer, int next) throws IndexOutOfBoundsException, IllegalArgumentException {
        Layer told = layerAt(layer);
        Layer nextTold = next == NONE ? null : layerAt(next);
        if (nextTold != null && !told.canGoOnTo(nextTold)) {
            throw new IllegalArgumentException("no chain can go on there");
        }
        int before = told.nextLayer == null ? NONE : told.nextLayer.number;
        told.nextLayer = nextTold;
        return before;
    }

    /** Places a layer on a tile. */
    public int place(int layer, int tile) throws IndexOutOfBoundsException, IllegalStateException {
        Layer told = layerAt(layer);
        Tile ground = tileAt(tile);
        if (told.ground != null || ground.isTaken) {
            throw new IllegalStateException("the layer is placed, or the tile has one");
        }
        seating.weigh(told, ground);
        seating.seat(told);
        told.ground = ground;
        ground.isTaken = true;
        return told.writeOn(ground, setting);
    }

    /** Loads a layer anew. */
    public int load(int layer) throws IndexOutOfBoundsException, IllegalStateException {
        Layer told = layerAt(layer);
        return told.writeOn(groundOf(told), setting);
    }

    /** Lifts a layer. */
    public int lift(int layer) throws IndexOutOfBoundsException, IllegalStateException {
        Layer told = layerAt(layer);
        Tile ground = groundOf(told);
        told.ground = null;
        ground.isTaken = false;
        return ground.number;
    }

    // ---- faults, hours, converters

    /** Sticks a cell. */
    public void stick(int tile, int row, int column, int state)
            throws IndexOutOfBoundsException, IllegalArgumentException, IllegalStateException {
        Tile told = tileAt(tile);
        checkIndex(row, ROWS);
        checkIndex(column, COLUMNS);
        checkArgument(state, 0, STATES - 1);
        if (!told.becomesStuck(row, column, state)) {
            throw new IllegalStateException("the cell is stuck");
        }
    }

    /** Spoils a tile. */
    public int spoil(int tile, int seed, int many) throws IndexOutOfBoundsException, IllegalArgumentException {
        Tile told = tileAt(tile);
        checkArgument(seed, 0, 65535);
        checkArgument(many, 1, 20);
        int spoilt = 0;
        int draw = seed;
        for (int time = 0; time < many; time++) {
            draw = drawBehind(draw);
            int at = draw % CELLS;
            draw = drawBehind(draw);
            if (told.becomesStuck(at / COLUMNS, at % COLUMNS, draw % STATES)) {
                spoilt++;
            }
        }
        return spoilt;
    }

    /** Tells the drift. */
    public int drift(int hours) throws IllegalArgumentException {
        checkArgument(hours, 0, 1000);
        int before = setting.driftHours;
        setting.driftHours = hours;
        return before;
    }

    /** Tells the endurance. */
    public int endurance(int pulses) throws IllegalArgumentException {
        checkArgument(pulses, 1, 100000);
        int before = setting.mostWear;
        setting.mostWear = pulses;
        return before;
    }

    /** Lets hours go by. */
    public int pass(int hours) throws IllegalArgumentException, IllegalStateException {
        checkArgument(hours, 1, 10000);
        if (setting.now + hours > LAST_HOUR) {
            throw new IllegalStateException("the hour would be above 1000000");
        }
        setting.now += hours;
        return setting.now;
    }

    /** Tells how a tile converts. */
    public int converter(int tile, int step, int top) throws IndexOutOfBoundsException, IllegalArgumentException {
        Tile told = tileAt(tile);
        checkArgument(step, 1, 16);
        checkArgument(top, 1, 127);
        int before = 1000 * told.readStep + told.readTop;
        told.readStep = step;
        told.readTop = top;
        return before;
    }

    /** Tells the offset of a column. */
    public int offset(int tile, int column, int offset) throws IndexOutOfBoundsException, IllegalArgumentException {
        Tile told = tileAt(tile);
        checkIndex(column, COLUMNS);
        checkArgument(offset, -3, 3);
        int before = told.offsets[column];
        told.offsets[column] = offset;
        return before;
    }

    /** Tells whether a tile is calibrated. */
    public boolean calibrate(int tile, boolean isSo) throws IndexOutOfBoundsException {
        Tile told = tileAt(tile);
        boolean before = told.isCalibrated;
        told.isCalibrated = isSo;
        return before;
    }

    /** Tells how many converters a tile has. */
    public int converters(int tile, int many) throws IndexOutOfBoundsException, IllegalArgumentException {
        Tile told = tileAt(tile);
        checkArgument(many, 1, COLUMNS);
        if (Integer.bitCount(many) != 1) {
            throw new IllegalArgumentException("no such number of converters");
        }
        int before = told.converterCount;
        told.converterCount = many;
        return before;
    }

    // ---- what is asked

    /** Tells of a cell. */
    public int cell(int tile, int row, int column, int what) throws IndexOutOfBoundsException {
        Tile asked = tileAt(tile);
        checkIndex(row, ROWS);
        checkIndex(column, COLUMNS);
        checkIndex(what, 5);
        int at = indexOf(row, column);
        switch (what) {
            case 0:
                return asked.states[at];
            case 1:
                return asked.conducted(row, column, setting);
            case 2:
                return asked.wears[at];
            case 3:
                return asked.isStuck[at] ? 1 : 0;
            default:
                return asked.isKnown[at] ? 1 : 0;
        }
    }

    /** Returns the row of an input. */
    public int rowOf(int layer, int input) throws IndexOutOfBoundsException {
        Layer asked = layerAt(layer);
        checkIndex(input, asked.inputs);
        return asked.ground == null ? NONE : asked.rows[input];
    }

    /** Returns the tile on which a layer is placed. */
    public int tileOf(int layer) throws IndexOutOfBoundsException {
        Layer asked = layerAt(layer);
        return asked.ground == null ? NONE : asked.ground.number;
    }

    /** Returns the fewest misfits that a layer could have on a tile now, whatever is placed there. */
    public int misfits(int layer, int tile) throws IndexOutOfBoundsException {
        Layer asked = layerAt(layer);
        seating.weigh(asked, tileAt(tile));
        return seating.fewestMisfits(asked.inputs);
    }

    /** Returns the same, found by trying all ways to give the inputs rows. */
    public int misfitsAnew(int layer, int tile) throws IndexOutOfBoundsException, IllegalStateException {
        Layer asked = layerAt(layer);
        Tile ground = tileAt(tile);
        if (asked.inputs > 4) {
            throw new IllegalStateException("the layer has more than 4 inputs");
        }
        seating.weigh(asked, ground);
        return seating.fewestOfAllWays(asked.inputs);
    }

    /** Tells whether a layer is true. */
    public boolean isTrue(int layer) throws IndexOutOfBoundsException {
        Layer asked = layerAt(layer);
        return asked.ground != null && asked.conductsAsNeeded(asked.ground, setting);
    }

    /** Returns the answer of an output. */
    public int answer(int layer, long vector, int output) throws IndexOutOfBoundsException, IllegalStateException {
        Layer asked = layerAt(layer);
        checkIndex(output, asked.outputs);
        return asked.answerOn(groundOf(asked), vector, output, setting);
    }

    /** Returns the ideal answer of an output. */
    public int ideal(int layer, long vector, int output) throws IndexOutOfBoundsException {
        Layer asked = layerAt(layer);
        checkIndex(output, asked.outputs);
        return asked.idealAnswer(vector, output);
    }

    /** Returns a bound of an output. */
    public int bound(int layer, int output, boolean isUpper) throws IndexOutOfBoundsException, IllegalStateException {
        Layer asked = layerAt(layer);
        checkIndex(output, asked.outputs);
        return asked.boundOn(groundOf(asked), output, isUpper);
    }

    /** Runs a vector from a layer on. */
    public long run(int layer, long vector) throws IndexOutOfBoundsException, IllegalStateException {
        long passed = vector;
        for (Layer asked = layerAt(layer); asked != null; asked = asked.nextLayer) {
            passed = vectorFrom(asked, groundOf(asked), passed);
        }
        return passed;
    }

    /** Returns what would be the result with ideal answers, wherever layers are placed. */
    public long runIdeal(int layer, long vector) throws IndexOutOfBoundsException {
        long passed = vector;
        for (Layer asked = layerAt(layer); asked != null; asked = asked.nextLayer) {
            passed = vectorFrom(asked, null, passed);
        }
        return passed;
    }

    /** Returns how many cycles some vectors take through the chain from a layer on. */
    public int cycles(int layer, int many)
            throws IndexOutOfBoundsException, IllegalArgumentException, IllegalStateException {
        Layer first = layerAt(layer);
        checkArgument(many, 1, MOST_VECTORS);
        tellPipeline(first);
        return pipeline.cyclesReckoned(many);
    }

    /** Returns the same, found cycle by cycle. */
    public int cyclesAnew(int layer, int many)
            throws IndexOutOfBoundsException, IllegalArgumentException, IllegalStateException {
        Layer first = layerAt(layer);
        checkArgument(many, 1, MOST_VECTORS);
        tellPipeline(first);
        return pipeline.cyclesCounted(many);
    }

    /** Returns the wear of all cells of a tile, together. */
    public long wear(int tile) throws IndexOutOfBoundsException {
        Tile asked = tileAt(tile);
        long together = 0;
        for (int at = 0; at < CELLS; at++) {
            together += asked.wears[at];
        }
        return together;
    }

    /** Returns the share of the cells of a tile that are stuck. */
    public float share(int tile) throws IndexOutOfBoundsException {
        Tile asked = tileAt(tile);
        int stuck = 0;
        for (int at = 0; at < CELLS; at++) {
            stuck += asked.isStuck[at] ? 1 : 0;
        }
        return (float) stuck / CELLS;
    }

    /** Returns the hour. */
    public int hour() {
        return setting.now;
    }

    private Layer layerAt(int number) {
        if (number < 0 || number >= LAYERS || layers[number] == null) {
            throw new IndexOutOfBoundsException("there is no such layer");
        }
        return layers[number];
    }

    private Tile tileAt(int number) {
        if (number < 0 || number >= TILES) {
            throw new IndexOutOfBoundsException("there is no such tile");
        }
        return tiles[number];
    }

    private static Tile groundOf(Layer layer) {
        if (layer.ground == null) {
            throw new IllegalStateException("the layer is not placed");
        }
        return layer.ground;
    }

    private static void checkIndex(int index, int many) {
        if (index < 0 || index >= many) {
            throw new IndexOutOfBoundsException("there is no such one");
        }
    }

    private static void checkArgument(int argument, int least, int greatest) {
        if (argument < least || argument > greatest) {
            throw new IllegalArgumentException("an argument is out of range");
        }
    }

    private static int indexOf(int row, int column) {
        return row * COLUMNS + column;
    }

    private static int inputOf(long vector, int input) {
        return (int) (vector >> (BITS * input)) & GREATEST_INPUT;
    }

    /** No divisor here is below 1; the test keeps the machine from ever throwing all the same. */
    private static int quotient(int number, int divisor) {
        return divisor < 1 ? 0 : number / divisor;
    }

    private static int drawBehind(int draw) {
        return (25173 * draw + 13849) % 65536;
    }

    /** What comes of a layer, with its answers on the ground, or with ideal ones without a ground. */
    private long vectorFrom(Layer layer, Tile ground, long vector) {
        long result = 0;
        for (int output = 0; output < layer.outputs; output++) {
            int answer = ground == null
                    ? layer.idealAnswer(vector, output)
                    : layer.answerOn(ground, vector, output, setting);
            // a shift of the sign, as the quotient is rounded down below 0 too
            int clipped = Math.max(0, Math.min(GREATEST_INPUT, answer >> layer.shiftBy));
            result |= (long) clipped << (BITS * output);
        }
        return result;
    }

    private void tellPipeline(Layer first) {
        pipeline.clear();
        for (Layer layer = first; layer != null; layer = layer.nextLayer) {
            pipeline.add(layer.cyclesOn(groundOf(layer)));
        }
    }

    /** What holds for the cells of all tiles. */
    private static final class Setting {
        int now = 0;
        int driftHours = 0;
        int mostWear = 1000;
    }

    /** Cells, by their rows, and what reads their columns. */
    private static final class Tile {
        final int number;
        final int[] states = new int[CELLS];
        final int[] wears = new int[CELLS];
        final int[] hours = new int[CELLS];
        final boolean[] isStuck = new boolean[CELLS];
        final boolean[] isKnown = new boolean[CELLS];
        final int[] offsets = new int[COLUMNS];
        int readStep = 1;
        int readTop = 127;
        boolean isCalibrated = false;
        int converterCount = 4;
        boolean isTaken = false;

        Tile(int number) {
            this.number = number;
        }

        int conducted(int row, int column, Setting setting) {
            int at = indexOf(row, column);
            if (setting.driftHours == 0 || isStuck[at]) {
                return states[at];
            }
            int lost = quotient(setting.now - hours[at], setting.driftHours);
            return Math.max(0, states[at] - lost);
        }

        /** Answers whether the cell was sound till now. */
        boolean becomesStuck(int row, int column, int state) {
            int at = indexOf(row, column);
            if (isStuck[at]) {
                return false;
            }
            isStuck[at] = true;
            states[at] = state;
            return true;
        }

        /** Answers whether the write failed. */
        boolean failsToWrite(int row, int column, int wanted, Setting setting) {
            int at = indexOf(row, column);
            if (!isStuck[at]) {
                states[at] = conducted(row, column, setting);
                hours[at] = setting.now;
            }
            for (int pulse = 0; pulse < MOST_PULSES && states[at] != wanted; pulse++) {
                givePulse(at, wanted, setting.mostWear);
            }
            if (states[at] == wanted) {
                return false;
            }
            isKnown[at] = true;
            return true;
        }

        private void givePulse(int at, int wanted, int mostWear) {
            wears[at]++;
            if (isStuck[at]) {
                return;
            }
            states[at] = states[at] < wanted ? states[at] + 1 : Math.max(0, states[at] - 2);
            isStuck[at] = wears[at] >= mostWear;
        }

        boolean isMisfit(int row, int column, int needed) {
            int at = indexOf(row, column);
            return isKnown[at] && states[at] != needed;
        }

        int read(int column, int current) {
            int shifted = isCalibrated ? current : Math.max(0, current + offsets[column]);
            return Math.min(readTop, quotient(shifted, readStep)) * readStep;
        }

        int leastError(int column, int need) {
            int least = read(column, 0);
            for (int current = 1; current <= need; current++) {
                least = Math.min(least, read(column, current) - current);
            }
            return least;
        }

        int greatestError(int column, int need) {
            int greatest = read(column, 0);
            for (int current = 1; current <= need; current++) {
                greatest = Math.max(greatest, read(column, current) - current);
            }
            return greatest;
        }
    }

    /** Weights, and where they stand. */
    private static final class Layer {
        final int number;
        final int inputs;
        final int outputs;
        final int[] weights = new int[INPUTS * OUTPUTS];
        final int[] rows = new int[INPUTS];
        int shiftBy = 0;
        Layer nextLayer = null;
        /** The tile that it is placed on; null without, and then its rows tell nothing. */
        Tile ground = null;

        Layer(int number, int inputs, int outputs) {
            this.number = number;
            this.inputs = inputs;
            this.outputs = outputs;
        }

        int weightOf(int input, int output) {
            return weights[input * OUTPUTS + output];
        }

        void tellWeight(int input, int output, int told) {
            weights[input * OUTPUTS + output] = told;
        }

        /** Chains end, as the numbers in them only rise. */
        boolean canGoOnTo(Layer other) {
            return other.number > number && other.inputs >= outputs;
        }

        int columns() {
            return KINDS * outputs;
        }

        /** The state that a weight needs in a column. */
        int needed(int input, int column) {
            int value = weightOf(input, column / KINDS) * (FACTORS[column % KINDS] < 0 ? -1 : 1);
            if (value < 0) {
                return 0;
            }
            return column % 2 == 0 ? value % STATES : value / STATES;
        }

        /** Writes all cells that are needed, and answers how many writes failed. */
        int writeOn(Tile tile, Setting setting) {
            int failed = 0;
            for (int input = 0; input < inputs; input++) {
                for (int column = 0; column < columns(); column++) {
                    if (tile.failsToWrite(rows[input], column, needed(input, column), setting)) {
                        failed++;
                    }
                }
            }
            return failed;
        }

        boolean conductsAsNeeded(Tile tile, Setting setting) {
            for (int input = 0; input < inputs; input++) {
                for (int column = 0; column < columns(); column++) {
                    if (tile.conducted(rows[input], column, setting) != needed(input, column)) {
                        return false;
                    }
                }
            }
            return true;
        }

        int misfitsIn(Tile tile, int input, int row) {
            int misfits = 0;
            for (int column = 0; column < columns(); column++) {
                if (tile.isMisfit(row, column, needed(input, column))) {
                    misfits++;
                }
            }
            return misfits;
        }

        int answerOn(Tile tile, long vector, int output, Setting setting) {
            int sum = 0;
            for (int bit = 0; bit < BITS; bit++) {
                for (int kind = 0; kind < KINDS; kind++) {
                    int column = output * KINDS + kind;
                    int current = currentOn(tile, vector >> bit, column, setting);
                    sum += (FACTORS[kind] * tile.read(column, current)) << bit;
                }
            }
            return sum;
        }

        /** The current for the lowest bit of each input of the vector. */
        private int currentOn(Tile tile, long vector, int column, Setting setting) {
            int current = 0;
            for (int input = 0; input < inputs; input++) {
                if ((inputOf(vector, input) & 1) == 1) {
                    current += tile.conducted(rows[input], column, setting);
                }
            }
            return current;
        }

        int idealAnswer(long vector, int output) {
            int sum = 0;
            for (int input = 0; input < inputs; input++) {
                sum += weightOf(input, output) * inputOf(vector, input);
            }
            return sum;
        }

        int boundOn(Tile tile, int output, boolean isUpper) {
            int sum = 0;
            for (int kind = 0; kind < KINDS; kind++) {
                int column = output * KINDS + kind;
                int need = needOf(column);
                // what a minus column reads too much makes the answer less
                boolean isGreatest = isUpper == (FACTORS[kind] > 0);
                sum += FACTORS[kind] * (isGreatest ? tile.greatestError(column, need) : tile.leastError(column, need));
            }
            return GREATEST_INPUT * sum;
        }

        private int needOf(int column) {
            int need = 0;
            for (int input = 0; input < inputs; input++) {
                need += needed(input, column);
            }
            return need;
        }

        int cyclesOn(Tile tile) {
            return BITS * quotient(columns() + tile.converterCount - 1, tile.converterCount);
        }
    }

    /** Finds rows for inputs. Its tables are kept, as each call would make them anew otherwise. */
    private static final class Seating {
        /** The misfits of each input in each row. */
        private final int[] misfitTable = new int[INPUTS * ROWS];
        /** By the set of the rows that the first inputs have: the fewest misfits of all others. */
        private final int[] fewest = new int[1 << ROWS];

        /** Counts what the other calls go by. */
        void weigh(Layer layer, Tile tile) {
            for (int input = 0; input < layer.inputs; input++) {
                for (int row = 0; row < ROWS; row++) {
                    misfitTable[input * ROWS + row] = layer.misfitsIn(tile, input, row);
                }
            }
        }

        int fewestMisfits(int inputs) {
            // from full sets down, as each set looks at sets with one row more
            for (int taken = (1 << ROWS) - 1; taken >= 0; taken--) {
                int input = Integer.bitCount(taken);
                fewest[taken] = input < inputs ? fewestFrom(input, taken) : 0;
            }
            return fewest[0];
        }

        private int fewestFrom(int input, int taken) {
            int least = CELLS;
            for (int row = 0; row < ROWS; row++) {
                if (((taken >> row) & 1) == 0) {
                    least = Math.min(least, fewestWith(input, row, taken));
                }
            }
            return least;
        }

        private int fewestWith(int input, int row, int taken) {
            return misfitTable[input * ROWS + row] + fewest[taken | (1 << row)];
        }

        /** Gives each input the lowest row that still allows the fewest misfits. */
        void seat(Layer layer) {
            fewestMisfits(layer.inputs);
            int taken = 0;
            for (int input = 0; input < layer.inputs; input++) {
                int row = lowestBestRow(input, taken);
                layer.rows[input] = row;
                taken |= 1 << row;
            }
        }

        private int lowestBestRow(int input, int taken) {
            for (int row = 0; row < ROWS - 1; row++) {
                if (((taken >> row) & 1) == 0 && fewestWith(input, row, taken) == fewest[taken]) {
                    return row;
                }
            }
            return ROWS - 1;
        }

        int fewestOfAllWays(int inputs) {
            int least = CELLS;
            int ways = 1 << (3 * inputs);
            for (int way = 0; way < ways; way++) {
                least = Math.min(least, misfitsOfWay(way, inputs));
            }
            return least;
        }

        /** A way has three bits for the row of each input; one that takes a row twice has all misfits. */
        private int misfitsOfWay(int way, int inputs) {
            int together = 0;
            int taken = 0;
            for (int input = 0; input < inputs; input++) {
                int row = (way >> (3 * input)) & (ROWS - 1);
                if (((taken >> row) & 1) == 1) {
                    return CELLS;
                }
                taken |= 1 << row;
                together += misfitTable[input * ROWS + row];
            }
            return together;
        }
    }

    /** The stages of a chain, each with the cycles that it takes for a vector. */
    private static final class Pipeline {
        private final int[] takes = new int[LAYERS];
        /** The cycles that the vector in a stage still needs there; NONE if the stage is free. */
        private final int[] left = new int[LAYERS];
        private int stages = 0;

        void clear() {
            stages = 0;
        }

        void add(int cycles) {
            if (stages < LAYERS) {
                takes[stages] = cycles;
                stages++;
            }
        }

        /** Behind the first vector, each comes out as much later as the slowest stage takes. */
        int cyclesReckoned(int many) {
            int together = 0;
            int slowest = 0;
            for (int stage = 0; stage < stages; stage++) {
                together += takes[stage];
                slowest = Math.max(slowest, takes[stage]);
            }
            return together + (many - 1) * slowest;
        }

        int cyclesCounted(int many) {
            for (int stage = 0; stage < stages; stage++) {
                left[stage] = NONE;
            }
            int entered = 0;
            int done = 0;
            for (int cycle = 0; cycle < MOST_CYCLES; cycle++) {
                done += moveOn();
                if (done >= many) {
                    return cycle;
                }
                if (entered < many && left[0] == NONE) {
                    left[0] = takes[0];
                    entered++;
                }
                work();
            }
            return MOST_CYCLES;
        }

        /** Moves from the last stage back, so that a stage freed now takes a vector now; answers how many are out. */
        private int moveOn() {
            int out = 0;
            for (int stage = stages - 1; stage >= 0; stage--) {
                if (left[stage] != 0) {
                    continue;
                }
                if (stage == stages - 1) {
                    left[stage] = NONE;
                    out++;
                } else if (left[stage + 1] == NONE) {
                    left[stage] = NONE;
                    left[stage + 1] = takes[stage + 1];
                }
            }
            return out;
        }

        private void work() {
            for (int stage = 0; stage < stages; stage++) {
                if (left[stage] > 0) {
                    left[stage]--;
                }
            }
        }
    }
}
