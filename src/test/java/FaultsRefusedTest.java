/**
 * Promises 9 to 17: what each call takes and refuses, on either side of each boundary, with which exception, and that
 * a refused call changes nothing. Above each test stands the sentence that it looks at.
 */
public final class FaultsRefusedTest {
    public static void main(String[] args) {
        promise9NoSuchTile();
        promise9NoSuchRow();
        promise9NoSuchColumn();
        promise9StateOutOfRange();
        promise9ItIsStuck();
        promise9FirstOfSeveral();
        promise10NoSuchTile();
        promise10SeedOutOfRange();
        promise10ManyOutOfRange();
        promise10FirstOfSeveral();
        promise11HoursOutOfRange();
        promise12PulsesOutOfRange();
        promise13HoursOutOfRange();
        promise13WouldBeAbove();
        promise13FirstOfSeveral();
        promise14NoSuchTile();
        promise14StepOutOfRange();
        promise14TopOutOfRange();
        promise14FirstOfSeveral();
        promise15NoSuchTile();
        promise15NoSuchColumn();
        promise15OffsetOutOfRange();
        promise15FirstOfSeveral();
        promise16NoSuchTile();
        promise17NoSuchTile();
        promise17NoneOfThese();
        promise17FirstOfSeveral();
        Check.finish();
    }

    /** "IndexOutOfBoundsException if there is no such tile, row or column". */
    private static void promise9NoSuchTile() {
        Twins.range("tile", Busy::machine, 0, 5, Twins.INDEX, (x, tile) -> x.stick(tile, 3, 14, 2));
    }

    /** "row: 0 to 7". */
    private static void promise9NoSuchRow() {
        Twins.range("row", Busy::machine, 0, 7, Twins.INDEX, (x, row) -> x.stick(4, row, 7, 2));
        Twins.range("row", Busy::machine, 0, 7, Twins.INDEX, (x, row) -> x.stick(5, row, 14, 2));
    }

    /** "column: 0 to 15". */
    private static void promise9NoSuchColumn() {
        Twins.range("column", Busy::machine, 0, 15, Twins.INDEX, (x, column) -> x.stick(4, 3, column, 2));
        Twins.range("column, first row", Busy::machine, 0, 15, Twins.INDEX, (x, column) -> x.stick(1, 0, column, 2));
        Twins.range("column, last row", Busy::machine, 0, 15, Twins.INDEX, (x, column) -> x.stick(1, 7, column, 2));
    }

    /** "state: 0 to 15", "IllegalArgumentException if state is out of range". */
    private static void promise9StateOutOfRange() {
        Twins.range("state", Busy::machine, 0, 15, Twins.ARGUMENT, (x, state) -> x.stick(5, 0, 0, state));
        for (int state = 0; state < 16; state++) {
            Crossbarry x = Twins.made(Busy::machine);
            x.stick(5, 0, 0, state);
            Check.due("stuck at", x.cell(5, 0, 0, 0), state);
            Check.due("stuck", x.cell(5, 0, 0, 3), 1);
        }
    }

    /** "IllegalStateException if it is stuck": by being told, by a spoil, by wear; known or not. */
    private static void promise9ItIsStuck() {
        for (int state = 0; state < 16; state++) {
            int at = state;
            Twins.refused("known to be stuck at 9", Twins.STATE, Busy::machine, x -> x.stick(5, 7, 15, at));
            Twins.refused("stuck at 6", Twins.STATE, Busy::machine, x -> x.stick(3, 2, 4, at));
        }
        Twins.refused("stuck at 0", Twins.STATE, x -> x.stick(0, 0, 0, 0), x -> x.stick(0, 0, 0, 0));
        Twins.refused("spoilt", Twins.STATE, x -> x.spoil(4, 0, 1), x -> x.stick(4, 1, 9, 2));
        Twins.Calls worn = x -> {
            x.layer(1, 1);
            x.weight(0, 0, 0, 0x35);
            x.endurance(5);
            x.place(0, 0);
        };
        Twins.refused("worn out", Twins.STATE, worn, x -> x.stick(0, 0, 0, 2));
        Twins.taken("not worn out", worn, x -> x.stick(0, 0, 1, 2));
    }

    private static void promise9FirstOfSeveral() {
        Twins.refused("stuck, and state", Twins.ARGUMENT, Busy::machine, x -> x.stick(5, 7, 15, 16));
        Twins.refused("stuck, and state", Twins.ARGUMENT, Busy::machine, x -> x.stick(5, 7, 15, -1));
        Twins.refused("tile, and state", Twins.INDEX, Busy::machine, x -> x.stick(6, 7, 15, 16));
        Twins.refused("row, and state", Twins.INDEX, Busy::machine, x -> x.stick(5, 8, 15, -1));
        Twins.refused("column, and state", Twins.INDEX, Busy::machine, x -> x.stick(5, 7, 16, 16));
        Twins.refused("column before the stuck one's row", Twins.INDEX, Busy::machine, x -> x.stick(3, 3, -12, 1));
    }

    /** "IndexOutOfBoundsException if there is no such tile". */
    private static void promise10NoSuchTile() {
        Twins.range("tile", Busy::machine, 0, 5, Twins.INDEX, (x, tile) -> x.spoil(tile, 7, 20));
    }

    /** "seed: 0 to 65535", "IllegalArgumentException if seed or many is out of range". */
    private static void promise10SeedOutOfRange() {
        Twins.range("seed", Busy::machine, 0, 65535, Twins.ARGUMENT, (x, seed) -> x.spoil(4, seed, 1));
        Twins.range("seed", Busy::machine, 0, 65535, Twins.ARGUMENT, (x, seed) -> x.spoil(5, seed, 20));
    }

    /** "many: 1 to 20". */
    private static void promise10ManyOutOfRange() {
        Twins.range("many", Busy::machine, 1, 20, Twins.ARGUMENT, (x, many) -> x.spoil(4, 0, many));
        Twins.range("many", Busy::machine, 1, 20, Twins.ARGUMENT, (x, many) -> x.spoil(5, 65535, many));
        for (int many = 1; many <= 20; many++) {
            Crossbarry x = new Crossbarry();
            Check.due("as many cells", x.spoil(0, 123, many), many);
            Check.due("as many cells", x.share(0), many / 128f);
        }
    }

    private static void promise10FirstOfSeveral() {
        Twins.refused("tile, and seed", Twins.INDEX, Busy::machine, x -> x.spoil(6, 65536, 1));
        Twins.refused("tile, and many", Twins.INDEX, Busy::machine, x -> x.spoil(-1, 0, 21));
        Twins.refused("seed and many", Twins.ARGUMENT, Busy::machine, x -> x.spoil(0, -1, 0));
    }

    /** "hours: 0 to 1000", "IllegalArgumentException if hours is out of range". */
    private static void promise11HoursOutOfRange() {
        Twins.range("drift", Busy::fresh, 0, 1000, Twins.ARGUMENT, (x, hours) -> x.drift(hours));
        Twins.range("drift", Busy::machine, 0, 1000, Twins.ARGUMENT, (x, hours) -> x.drift(hours));
        for (int hours : new int[] {0, 1, 1000}) {
            Crossbarry x = Twins.made(Busy::machine);
            Check.due("drift before", x.drift(hours), 2);
            Check.due("as told", x.drift(7), hours);
        }
    }

    /** "pulses: 1 to 100000", "IllegalArgumentException if pulses is out of range". */
    private static void promise12PulsesOutOfRange() {
        Twins.range("endurance", Busy::fresh, 1, 100000, Twins.ARGUMENT, (x, pulses) -> x.endurance(pulses));
        Twins.range("endurance", Busy::machine, 1, 100000, Twins.ARGUMENT, (x, pulses) -> x.endurance(pulses));
        for (int pulses : new int[] {1, 100000}) {
            Crossbarry x = Twins.made(Busy::machine);
            Check.due("endurance before", x.endurance(pulses), 40);
            Check.due("as told", x.endurance(7), pulses);
        }
    }

    /** "hours: 1 to 10000", "IllegalArgumentException if hours is out of range". */
    private static void promise13HoursOutOfRange() {
        Twins.range("hours", Busy::fresh, 1, 10000, Twins.ARGUMENT, (x, hours) -> x.pass(hours));
        Twins.range("hours", Busy::machine, 1, 10000, Twins.ARGUMENT, (x, hours) -> x.pass(hours));
        for (int hours : new int[] {1, 10000}) {
            Crossbarry x = Twins.made(Busy::machine);
            Check.due("the hour then", x.pass(hours), 3 + hours);
            Check.due("the hour", x.hour(), 3 + hours);
        }
    }

    /** "IllegalStateException if it would be above 1000000". */
    private static void promise13WouldBeAbove() {
        Twins.Calls late = x -> passTo(x, 999999);
        Twins.Calls latest = x -> passTo(x, 1000000);
        Twins.Calls before = x -> passTo(x, 990000);
        Twins.Calls behind = x -> passTo(x, 990001);
        Twins.taken("to 1000000 by 1", late, x -> x.pass(1));
        Twins.refused("to 1000001 by 2", Twins.STATE, late, x -> x.pass(2));
        Twins.refused("to 1000001 by 1", Twins.STATE, latest, x -> x.pass(1));
        Twins.taken("to 1000000 by 10000", before, x -> x.pass(10000));
        Twins.taken("to 1000000 by 9999", behind, x -> x.pass(9999));
        Twins.refused("to 1000001 by 10000", Twins.STATE, behind, x -> x.pass(10000));
        Twins.refused("far above", Twins.STATE, latest, x -> x.pass(10000));
        Check.due("the last hour", Twins.made(late).pass(1), 1000000);
        Check.due("the last hour", Twins.made(latest).hour(), 1000000);
        Check.due("the last hour", Twins.made(before).pass(10000), 1000000);
    }

    private static void passTo(Crossbarry x, int hour) {
        for (int left = hour; left > 0; left -= 10000) {
            x.pass(Math.min(left, 10000));
        }
    }

    private static void promise13FirstOfSeveral() {
        Twins.refused("above, and too many", Twins.ARGUMENT, x -> passTo(x, 1000000), x -> x.pass(10001));
        Twins.refused("above, and far too many", Twins.ARGUMENT, x -> passTo(x, 1000000), x -> x.pass(Integer.MAX_VALUE));
        Twins.refused("not above, as none go by", Twins.ARGUMENT, x -> passTo(x, 1000000), x -> x.pass(0));
    }

    /** "IndexOutOfBoundsException if there is no such tile". */
    private static void promise14NoSuchTile() {
        Twins.range("tile", Busy::machine, 0, 5, Twins.INDEX, (x, tile) -> x.converter(tile, 7, 9));
    }

    /** "step: 1 to 16", "IllegalArgumentException if step or top is out of range". */
    private static void promise14StepOutOfRange() {
        for (int tile = 0; tile < 6; tile++) {
            int of = tile;
            Twins.range("step", Busy::machine, 1, 16, Twins.ARGUMENT, (x, step) -> x.converter(of, step, 9));
        }
        for (int step : new int[] {1, 16}) {
            Crossbarry x = Twins.made(Busy::machine);
            Check.due("before", x.converter(0, step, 9), 2050);
            Check.due("as told", x.converter(0, 1, 127), 1000 * step + 9);
        }
    }

    /** "top: 1 to 127". */
    private static void promise14TopOutOfRange() {
        for (int tile = 0; tile < 6; tile++) {
            int of = tile;
            Twins.range("top", Busy::machine, 1, 127, Twins.ARGUMENT, (x, top) -> x.converter(of, 7, top));
        }
        for (int top : new int[] {1, 127}) {
            Crossbarry x = Twins.made(Busy::machine);
            Check.due("before", x.converter(5, 7, top), 3100);
            Check.due("as told", x.converter(5, 1, 127), 7000 + top);
        }
    }

    private static void promise14FirstOfSeveral() {
        Twins.refused("tile, and step", Twins.INDEX, Busy::machine, x -> x.converter(6, 17, 9));
        Twins.refused("tile, and top", Twins.INDEX, Busy::machine, x -> x.converter(-1, 7, 128));
        Twins.refused("step and top", Twins.ARGUMENT, Busy::machine, x -> x.converter(0, 0, 0));
    }

    /** "IndexOutOfBoundsException if there is no such tile or column". */
    private static void promise15NoSuchTile() {
        Twins.range("tile", Busy::machine, 0, 5, Twins.INDEX, (x, tile) -> x.offset(tile, 15, 1));
    }

    /** "column: 0 to 15". */
    private static void promise15NoSuchColumn() {
        Twins.range("column", Busy::machine, 0, 15, Twins.INDEX, (x, column) -> x.offset(0, column, 1));
        Twins.range("column", Busy::machine, 0, 15, Twins.INDEX, (x, column) -> x.offset(5, column, 1));
    }

    /** "offset: -3 to 3", "IllegalArgumentException if offset is out of range". */
    private static void promise15OffsetOutOfRange() {
        Twins.range("offset", Busy::machine, -3, 3, Twins.ARGUMENT, (x, offset) -> x.offset(0, 0, offset));
        Twins.range("offset", Busy::machine, -3, 3, Twins.ARGUMENT, (x, offset) -> x.offset(5, 15, offset));
        Twins.range("offset, calibrated", Busy::machine, -3, 3, Twins.ARGUMENT, (x, offset) -> x.offset(5, 0, offset));
        for (int offset = -3; offset <= 3; offset++) {
            Crossbarry x = Twins.made(Busy::machine);
            Check.due("before", x.offset(5, 15, offset), -3);
            Check.due("as told", x.offset(5, 15, 0), offset);
        }
    }

    private static void promise15FirstOfSeveral() {
        Twins.refused("tile, and offset", Twins.INDEX, Busy::machine, x -> x.offset(6, 0, 4));
        Twins.refused("column, and offset", Twins.INDEX, Busy::machine, x -> x.offset(0, 16, -4));
        Twins.refused("all", Twins.INDEX, Busy::machine, x -> x.offset(-1, -1, -4));
    }

    /** "IndexOutOfBoundsException if there is no such tile". */
    private static void promise16NoSuchTile() {
        Twins.range("tile", Busy::machine, 0, 5, Twins.INDEX, (x, tile) -> x.calibrate(tile, true));
        Twins.range("tile", Busy::machine, 0, 5, Twins.INDEX, (x, tile) -> x.calibrate(tile, false));
        for (int tile = 0; tile < 6; tile++) {
            Crossbarry x = Twins.made(Busy::machine);
            Check.due("before", x.calibrate(tile, true), tile == 5);
            Check.due("told so", x.calibrate(tile, true), true);
            Check.due("told so once more", x.calibrate(tile, false), true);
            Check.due("told otherwise", x.calibrate(tile, false), false);
        }
    }

    /** "IndexOutOfBoundsException if there is no such tile". */
    private static void promise17NoSuchTile() {
        Twins.range("tile", Busy::machine, 0, 5, Twins.INDEX, (x, tile) -> x.converters(tile, 8));
    }

    /** "many: 1, 2, 4, 8 or 16", "IllegalArgumentException if many is none of these". */
    private static void promise17NoneOfThese() {
        Twins.range("many", Busy::machine, 1, 16, Twins.ARGUMENT, (x, many) -> x.converters(0, many));
        for (int many = -20; many <= 70; many++) {
            int told = many;
            boolean isOneOfThese = many == 1 || many == 2 || many == 4 || many == 8 || many == 16;
            if (isOneOfThese) {
                Crossbarry x = Twins.made(Busy::machine);
                Check.due("before", x.converters(3, many), 16);
                Check.due("as told", x.converters(3, 4), many);
            } else {
                Twins.refused(many + " converters", Twins.ARGUMENT, Busy::machine, x -> x.converters(3, told));
            }
        }
        for (int bit = 5; bit < 32; bit++) {
            int told = 1 << bit;
            Twins.refused(told + " converters", Twins.ARGUMENT, Busy::machine, x -> x.converters(0, told));
        }
    }

    private static void promise17FirstOfSeveral() {
        Twins.refused("tile, and many", Twins.INDEX, Busy::machine, x -> x.converters(6, 3));
        Twins.refused("tile, and many", Twins.INDEX, Busy::machine, x -> x.converters(-1, 0));
    }
}
