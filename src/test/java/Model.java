import java.util.ArrayList;
import java.util.List;

/** The document once more, in another way than the class: what drawn runs are compared with. */
public final class Model {
    private static final class Cell {
        int state;
        int wear;
        int since;
        boolean stuck;
        boolean known;
    }

    private static final class Tile {
        final Cell[][] cells = new Cell[8][16];
        final int[] offsets = new int[16];
        int step = 1;
        int top = 127;
        int converters = 4;
        boolean calibrated;

        Tile() {
            for (Cell[] row : cells) {
                for (int column = 0; column < 16; column++) {
                    row[column] = new Cell();
                }
            }
        }
    }

    private static final class Layer {
        int[][] weights;
        int shift;
        int next = -1;
        int tile = -1;
        int[] rows;

        int inputs() {
            return weights.length;
        }

        int outputs() {
            return weights[0].length;
        }

        /** The four states for a weight: low plus, high plus, low minus, high minus. */
        int[] needs(int input, int output) {
            int w = weights[input][output];
            return w >= 0 ? new int[] {w % 16, w / 16, 0, 0} : new int[] {0, 0, -w % 16, -w / 16};
        }
    }

    private final List<Layer> layers = new ArrayList<>();
    private final Tile[] tiles = {new Tile(), new Tile(), new Tile(), new Tile(), new Tile(), new Tile()};
    private int hour;
    private int drift;
    private int endurance = 1000;

    private Layer at(int layer) {
        index(layer, layers.size());
        return layers.get(layer);
    }

    private Tile on(int tile) {
        index(tile, 6);
        return tiles[tile];
    }

    private static void index(int index, int size) {
        if (index < 0 || index >= size) {
            throw new IndexOutOfBoundsException();
        }
    }

    private static void argument(boolean isRight) {
        if (!isRight) {
            throw new IllegalArgumentException();
        }
    }

    private static void state(boolean isRight) {
        if (!isRight) {
            throw new IllegalStateException();
        }
    }

    public int layer(int inputs, int outputs) {
        argument(inputs >= 1 && inputs <= 8 && outputs >= 1 && outputs <= 4);
        state(layers.size() < 6);
        Layer made = new Layer();
        made.weights = new int[inputs][outputs];
        layers.add(made);
        return layers.size() - 1;
    }

    public int weight(int layer, int input, int output, int weight) {
        Layer it = at(layer);
        index(input, it.inputs());
        index(output, it.outputs());
        argument(weight >= -255 && weight <= 255);
        int before = it.weights[input][output];
        it.weights[input][output] = weight;
        return before;
    }

    public int shift(int layer, int shift) {
        Layer it = at(layer);
        argument(shift >= 0 && shift <= 20);
        int before = it.shift;
        it.shift = shift;
        return before;
    }

    public int next(int layer, int next) {
        Layer it = at(layer);
        if (next != -1) {
            Layer to = at(next);
            argument(next > layer && to.inputs() >= it.outputs());
        }
        int before = it.next;
        it.next = next;
        return before;
    }

    public int place(int layer, int tile) {
        Layer it = at(layer);
        on(tile);
        state(it.tile == -1);
        for (Layer other : layers) {
            state(other.tile != tile);
        }
        it.rows = bestRows(it, tiles[tile]);
        it.tile = tile;
        return load(layer);
    }

    public int load(int layer) {
        Layer it = at(layer);
        state(it.tile != -1);
        int failed = 0;
        for (int input = 0; input < it.inputs(); input++) {
            for (int output = 0; output < it.outputs(); output++) {
                int[] needs = it.needs(input, output);
                for (int kind = 0; kind < 4; kind++) {
                    Cell cell = tiles[it.tile].cells[it.rows[input]][4 * output + kind];
                    write(cell, needs[kind]);
                    failed += cell.state == needs[kind] ? 0 : 1;
                }
            }
        }
        return failed;
    }

    private void write(Cell cell, int wanted) {
        if (!cell.stuck) {
            cell.state = conducts(cell);
            cell.since = hour;
        }
        int pulses = 0;
        while (cell.state != wanted && pulses < 16) {
            pulses++;
            cell.wear++;
            if (!cell.stuck && cell.state < wanted) {
                cell.state++;
            } else if (!cell.stuck) {
                cell.state = cell.state < 2 ? 0 : cell.state - 2;
            }
            if (cell.wear >= endurance) {
                cell.stuck = true;
            }
        }
        if (cell.state != wanted) {
            cell.known = true;
        }
    }

    private int conducts(Cell cell) {
        if (drift == 0 || cell.stuck) {
            return cell.state;
        }
        int left = cell.state;
        for (int gone = drift; gone <= hour - cell.since && left > 0; gone += drift) {
            left--;
        }
        return left;
    }

    private static int misfitsInRow(Layer it, int input, Cell[] row) {
        int misfits = 0;
        for (int output = 0; output < it.outputs(); output++) {
            int[] needs = it.needs(input, output);
            for (int kind = 0; kind < 4; kind++) {
                Cell cell = row[4 * output + kind];
                misfits += cell.known && cell.stuck && cell.state != needs[kind] ? 1 : 0;
            }
        }
        return misfits;
    }

    /** All ways in the order of the rows of input 0, then 1, and so on: the first of the best. */
    private static int[] bestRows(Layer it, Tile tile) {
        int[][] misfits = new int[it.inputs()][8];
        for (int input = 0; input < it.inputs(); input++) {
            for (int row = 0; row < 8; row++) {
                misfits[input][row] = misfitsInRow(it, input, tile.cells[row]);
            }
        }
        int[] best = new int[it.inputs() + 1];
        best[it.inputs()] = 1000;
        seek(misfits, 0, 0, new int[it.inputs()], best);
        return best;
    }

    private static void seek(int[][] misfits, int input, int sum, int[] rows, int[] best) {
        if (sum >= best[rows.length]) {
            return;
        }
        if (input == rows.length) {
            System.arraycopy(rows, 0, best, 0, rows.length);
            best[rows.length] = sum;
            return;
        }
        for (int row = 0; row < 8; row++) {
            boolean isFree = true;
            for (int former = 0; former < input; former++) {
                isFree &= rows[former] != row;
            }
            if (isFree) {
                rows[input] = row;
                seek(misfits, input + 1, sum + misfits[input][row], rows, best);
            }
        }
    }

    public int lift(int layer) {
        Layer it = at(layer);
        state(it.tile != -1);
        int before = it.tile;
        it.tile = -1;
        return before;
    }

    public void stick(int tile, int row, int column, int state) {
        on(tile);
        index(row, 8);
        index(column, 16);
        argument(state >= 0 && state <= 15);
        Cell cell = tiles[tile].cells[row][column];
        state(!cell.stuck);
        cell.stuck = true;
        cell.state = state;
    }

    public int spoil(int tile, int seed, int many) {
        on(tile);
        argument(seed >= 0 && seed <= 65535 && many >= 1 && many <= 20);
        int count = 0;
        long draw = seed;
        for (int time = 0; time < many; time++) {
            draw = (draw * 25173 + 13849) % 65536;
            Cell cell = tiles[tile].cells[(int) draw / 16 % 8][(int) draw % 16];
            draw = (draw * 25173 + 13849) % 65536;
            if (!cell.stuck) {
                cell.stuck = true;
                cell.state = (int) draw % 16;
                count++;
            }
        }
        return count;
    }

    public int drift(int hours) {
        argument(hours >= 0 && hours <= 1000);
        int before = drift;
        drift = hours;
        return before;
    }

    public int endurance(int pulses) {
        argument(pulses >= 1 && pulses <= 100000);
        int before = endurance;
        endurance = pulses;
        return before;
    }

    public int pass(int hours) {
        argument(hours >= 1 && hours <= 10000);
        state(hour + hours <= 1000000);
        hour += hours;
        return hour;
    }

    public int converter(int tile, int step, int top) {
        Tile it = on(tile);
        argument(step >= 1 && step <= 16 && top >= 1 && top <= 127);
        int before = it.step * 1000 + it.top;
        it.step = step;
        it.top = top;
        return before;
    }

    public int offset(int tile, int column, int offset) {
        Tile it = on(tile);
        index(column, 16);
        argument(offset >= -3 && offset <= 3);
        int before = it.offsets[column];
        it.offsets[column] = offset;
        return before;
    }

    public boolean calibrate(int tile, boolean isSo) {
        Tile it = on(tile);
        boolean before = it.calibrated;
        it.calibrated = isSo;
        return before;
    }

    public int converters(int tile, int many) {
        Tile it = on(tile);
        argument(many == 1 || many == 2 || many == 4 || many == 8 || many == 16);
        int before = it.converters;
        it.converters = many;
        return before;
    }

    public int cell(int tile, int row, int column, int what) {
        on(tile);
        index(row, 8);
        index(column, 16);
        index(what, 5);
        Cell cell = tiles[tile].cells[row][column];
        int[] told = {cell.state, conducts(cell), cell.wear, cell.stuck ? 1 : 0, cell.known ? 1 : 0};
        return told[what];
    }

    public int rowOf(int layer, int input) {
        Layer it = at(layer);
        index(input, it.inputs());
        return it.tile == -1 ? -1 : it.rows[input];
    }

    public int tileOf(int layer) {
        return at(layer).tile;
    }

    public int misfits(int layer, int tile) {
        Layer it = at(layer);
        return bestRows(it, on(tile))[it.inputs()];
    }

    public int misfitsAnew(int layer, int tile) {
        Layer it = at(layer);
        on(tile);
        state(it.inputs() <= 4);
        return misfits(layer, tile);
    }

    public boolean isTrue(int layer) {
        Layer it = at(layer);
        boolean isSo = it.tile != -1;
        for (int k = 0; isSo && k < it.inputs() * it.outputs() * 4; k++) {
            int input = k / 4 / it.outputs();
            int output = k / 4 % it.outputs();
            Cell cell = tiles[it.tile].cells[it.rows[input]][4 * output + k % 4];
            isSo = conducts(cell) == it.needs(input, output)[k % 4];
        }
        return isSo;
    }

    private static int read(Tile tile, int column, int current) {
        int shifted = current;
        if (!tile.calibrated) {
            shifted += tile.offsets[column];
        }
        int steps = 0;
        while ((steps + 1) * tile.step <= shifted && steps < tile.top) {
            steps++;
        }
        return steps * tile.step;
    }

    public int answer(int layer, long vector, int output) {
        Layer it = at(layer);
        index(output, it.outputs());
        state(it.tile != -1);
        Tile tile = tiles[it.tile];
        int[] counts = {1, 16, -1, -16};
        int sum = 0;
        for (int kind = 0; kind < 4; kind++) {
            for (int bit = 0, power = 1; bit < 8; bit++, power *= 2) {
                int current = 0;
                for (int input = 0; input < it.inputs(); input++) {
                    if ((vector >>> (8 * input + bit)) % 2 != 0) {
                        current += conducts(tile.cells[it.rows[input]][4 * output + kind]);
                    }
                }
                sum += power * counts[kind] * read(tile, 4 * output + kind, current);
            }
        }
        return sum;
    }

    public int ideal(int layer, long vector, int output) {
        Layer it = at(layer);
        index(output, it.outputs());
        int sum = 0;
        for (int input = 0; input < it.inputs(); input++) {
            sum += (int) (vector >>> 8 * input & 255) * it.weights[input][output];
        }
        return sum;
    }

    public int bound(int layer, int output, boolean isUpper) {
        Layer it = at(layer);
        index(output, it.outputs());
        state(it.tile != -1);
        int[] least = new int[4];
        int[] most = new int[4];
        for (int kind = 0; kind < 4; kind++) {
            int need = 0;
            for (int input = 0; input < it.inputs(); input++) {
                need += it.needs(input, output)[kind];
            }
            least[kind] = 1000;
            most[kind] = -1000;
            for (int current = need; current >= 0; current--) {
                int error = read(tiles[it.tile], 4 * output + kind, current) - current;
                least[kind] = error < least[kind] ? error : least[kind];
                most[kind] = error > most[kind] ? error : most[kind];
            }
        }
        return isUpper
                ? 255 * (most[0] + 16 * most[1] - least[2] - 16 * least[3])
                : 255 * (least[0] + 16 * least[1] - most[2] - 16 * most[3]);
    }

    private long passOn(int layer, long vector, boolean isIdeal) {
        Layer it = at(layer);
        long result = 0;
        for (int output = it.outputs() - 1; output >= 0; output--) {
            int answer = isIdeal ? ideal(layer, vector, output) : answer(layer, vector, output);
            int part = Math.floorDiv(answer, 1 << it.shift);
            result = result * 256 + (part < 0 ? 0 : part > 255 ? 255 : part);
        }
        return it.next == -1 ? result : passOn(it.next, result, isIdeal);
    }

    public long run(int layer, long vector) {
        chainTimes(layer);
        return passOn(layer, vector, false);
    }

    public long runIdeal(int layer, long vector) {
        return passOn(layer, vector, true);
    }

    private List<Integer> chainTimes(int layer) {
        List<Integer> times = new ArrayList<>();
        at(layer);
        for (int number = layer; number != -1; number = at(number).next) {
            Layer it = at(number);
            state(it.tile != -1);
            int turns = 0;
            while (turns * tiles[it.tile].converters < 4 * it.outputs()) {
                turns++;
            }
            times.add(8 * turns);
        }
        return times;
    }

    /** By the cycles in which each vector leaves each layer, from those of the vector before. */
    public int cycles(int layer, int many) {
        at(layer);
        argument(many >= 1 && many <= 1000);
        List<Integer> times = chainTimes(layer);
        int last = times.size() - 1;
        int[] left = new int[last + 1];
        for (int vector = 0; vector < many; vector++) {
            int entered = left[0];
            for (int stage = 0; stage <= last; stage++) {
                int done = entered + times.get(stage);
                left[stage] = stage < last ? Math.max(done, left[stage + 1]) : done;
                entered = left[stage];
            }
        }
        return left[last];
    }

    public int cyclesAnew(int layer, int many) {
        return cycles(layer, many);
    }

    public long wear(int tile) {
        long sum = 0;
        for (Cell[] row : on(tile).cells) {
            for (Cell cell : row) {
                sum += cell.wear;
            }
        }
        return sum;
    }

    public float share(int tile) {
        int stuck = 0;
        for (Cell[] row : on(tile).cells) {
            for (Cell cell : row) {
                stuck += cell.stuck ? 1 : 0;
            }
        }
        return stuck / 128f;
    }

    public int hour() {
        return hour;
    }
}
