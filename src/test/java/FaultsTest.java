/** Promises 9 to 17: faults, hours, converters. */
public final class FaultsTest {
    private static final int MIN = Integer.MIN_VALUE;
    private static final int MAX = Integer.MAX_VALUE;

    public static void main(String[] args) {
        promise9Stick();
        promise10Spoil();
        promise10SpoilRefused();
        promise11Drift();
        promise11DriftAndWrites();
        promise12Endurance();
        promise12EnduranceIsLookedAtBehindPulses();
        promise13Pass();
        promise14Converter();
        promise15Offset();
        promise16Calibrate();
        promise17Converters();
        Check.finish();
    }

    private static void promise9Stick() {
        Crossbarry x = new Crossbarry();
        x.stick(2, 7, 15, 15);
        Check.due("state", x.cell(2, 7, 15, 0), 15);
        Check.due("conducts", x.cell(2, 7, 15, 1), 15);
        Check.due("no wear", x.cell(2, 7, 15, 2), 0);
        Check.due("stuck", x.cell(2, 7, 15, 3), 1);
        Check.due("not known", x.cell(2, 7, 15, 4), 0);
        Check.due("not on another tile", x.cell(1, 7, 15, 3), 0);
        Check.state("stuck already", () -> x.stick(2, 7, 15, 3));
        Check.due("it stays as it is", x.cell(2, 7, 15, 0), 15);
        Check.argument("stuck already, and out of range", () -> x.stick(2, 7, 15, 16));
        Check.argument("state too great", () -> x.stick(0, 0, 0, 16));
        Check.argument("state too small", () -> x.stick(0, 0, 0, -1));
        int[] tiles = {MIN, -1, 6, MAX};
        int[] rows = {MIN, -1, 8, MAX};
        int[] columns = {MIN, -1, 16, MAX};
        for (int k = 0; k < 4; k++) {
            int at = k;
            Check.index("no tile", () -> x.stick(tiles[at], 0, 0, 99));
            Check.index("no row", () -> x.stick(0, rows[at], 0, 1));
            Check.index("no column", () -> x.stick(0, 0, columns[at], -1));
        }
        Check.due("refused sticks change nothing", x.share(0), 0f);
        x.pass(100);
        x.drift(1);
        Check.due("a stuck cell does not drift", x.cell(2, 7, 15, 1), 15);
    }

    private static void promise10Spoil() {
        Crossbarry x = new Crossbarry();
        // The draws from 0: 13849, 48742 and 31223, 17180; 13849 by 128 leaves 25.
        Check.due("one cell", x.spoil(4, 0, 1), 1);
        Check.due("row 1, column 9 is stuck", x.cell(4, 1, 9, 3), 1);
        Check.due("at 48742 by 16", x.cell(4, 1, 9, 0), 6);
        Check.due("not known", x.cell(4, 1, 9, 4), 0);
        Check.due("share", x.share(4), 1f / 128);
        Check.due("the same cell again and one more", x.spoil(4, 0, 2), 1);
        Check.due("the next cell", x.cell(4, 7, 7, 3), 1);
        Check.due("its state", x.cell(4, 7, 7, 0), 12);
        Check.due("no wear", x.wear(4), 0);
        Check.due("none on another tile", x.share(3), 0f);
        x.stick(0, 1, 9, 1);
        Check.due("a stuck cell stays as it is", x.spoil(0, 0, 1), 0);
        Check.due("state", x.cell(0, 1, 9, 0), 1);
        Check.due("many", x.spoil(5, 65535, 20), 20);
        Check.due("share", x.share(5), 20f / 128);
    }

    private static void promise10SpoilRefused() {
        Crossbarry x = new Crossbarry();
        Check.index("no tile", () -> x.spoil(6, 0, 1));
        Check.index("no tile, and out of range", () -> x.spoil(-1, -1, 0));
        Check.argument("seed too small", () -> x.spoil(0, -1, 1));
        Check.argument("seed too great", () -> x.spoil(0, 65536, 1));
        Check.argument("too few", () -> x.spoil(0, 0, 0));
        Check.argument("too many", () -> x.spoil(0, 0, 21));
        Check.argument("too few", () -> x.spoil(0, 0, MIN));
        Check.due("nothing spoilt", x.share(0), 0f);
    }

    private static void promise11Drift() {
        Crossbarry x = new Crossbarry();
        x.layer(1, 1);
        x.weight(0, 0, 0, 0xA5);
        x.place(0, 0);
        Check.due("drift before", x.drift(3), 0);
        Check.due("at once", x.cell(0, 0, 1, 1), 10);
        x.pass(2);
        Check.due("before 3 hours", x.cell(0, 0, 1, 1), 10);
        x.pass(1);
        Check.due("at 3 hours", x.cell(0, 0, 1, 1), 9);
        Check.due("the state stays", x.cell(0, 0, 1, 0), 10);
        Check.due("no longer true", x.isTrue(0), false);
        x.pass(14);
        Check.due("at 17 hours", x.cell(0, 0, 1, 1), 5);
        Check.due("at 17 hours, of 5", x.cell(0, 0, 0, 1), 0);
        x.pass(4);
        Check.due("0 at least", x.cell(0, 0, 0, 1), 0);
        Check.due("drift before", x.drift(0), 3);
        Check.due("without drift", x.cell(0, 0, 1, 1), 10);
        Check.due("true again", x.isTrue(0), true);
        Check.due("drift before", x.drift(1000), 0);
        Check.argument("too many hours", () -> x.drift(1001));
        Check.argument("too few hours", () -> x.drift(-1));
        Check.argument("too few hours", () -> x.drift(MIN));
        Check.due("refused drifts change nothing", x.drift(1), 1000);
        Check.due("at 21 hours", x.cell(0, 0, 1, 1), 0);
    }

    private static void promise11DriftAndWrites() {
        Crossbarry x = new Crossbarry();
        x.layer(1, 1);
        x.weight(0, 0, 0, 10);
        x.place(0, 0);
        x.drift(2);
        x.pass(5);
        Check.due("conducts", x.cell(0, 0, 0, 1), 8);
        Check.due("load", x.load(0), 0);
        Check.due("two pulses more", x.cell(0, 0, 0, 2), 12);
        Check.due("state", x.cell(0, 0, 0, 0), 10);
        x.pass(3);
        Check.due("from the hour of the write on", x.cell(0, 0, 0, 1), 9);
        // A write to what it conducts now: no pulse, yet its state and its hour are new.
        x.weight(0, 0, 0, 9);
        x.load(0);
        Check.due("no pulse", x.cell(0, 0, 0, 2), 12);
        Check.due("state as conducted", x.cell(0, 0, 0, 0), 9);
        x.pass(1);
        Check.due("its hour is new", x.cell(0, 0, 0, 1), 9);
        x.pass(1);
        Check.due("2 hours later", x.cell(0, 0, 0, 1), 8);
    }

    private static void promise12Endurance() {
        Crossbarry x = new Crossbarry();
        Check.due("endurance before", x.endurance(4), 1000);
        x.layer(1, 1);
        x.weight(0, 0, 0, 0x45);
        Check.due("5 fails, 4 does not", x.place(0, 0), 1);
        Check.due("stuck behind the fourth pulse", x.cell(0, 0, 0, 0), 4);
        Check.due("the pulses go on to 16", x.cell(0, 0, 0, 2), 16);
        Check.due("stuck", x.cell(0, 0, 0, 3), 1);
        Check.due("known", x.cell(0, 0, 0, 4), 1);
        Check.due("stuck at what is wanted", x.cell(0, 0, 1, 0), 4);
        Check.due("with 4 pulses", x.cell(0, 0, 1, 2), 4);
        Check.due("stuck", x.cell(0, 0, 1, 3), 1);
        Check.due("not known", x.cell(0, 0, 1, 4), 0);
        Check.due("share", x.share(0), 2f / 128);
        Check.argument("too few pulses", () -> x.endurance(0));
        Check.argument("too few pulses", () -> x.endurance(MIN));
        Check.argument("too many pulses", () -> x.endurance(100001));
        Check.due("refused endurances change nothing", x.endurance(100000), 4);
        Check.due("endurance before", x.endurance(1), 100000);
        x.lift(0);
        x.place(0, 1);
        Check.due("stuck behind the first pulse", x.cell(1, 0, 0, 0), 1);
        Check.due("16 pulses for each", x.wear(1), 32);
        Check.due("cells without pulses are sound", x.share(1), 2f / 128);
    }

    private static void promise12EnduranceIsLookedAtBehindPulses() {
        Crossbarry x = new Crossbarry();
        x.layer(1, 1);
        x.weight(0, 0, 0, 15);
        x.place(0, 0);
        x.endurance(10);
        Check.due("sound without a pulse", x.cell(0, 0, 0, 3), 0);
        x.load(0);
        Check.due("sound as no pulse was needed", x.cell(0, 0, 0, 3), 0);
        x.weight(0, 0, 0, 14);
        Check.due("down by 2, then stuck", x.load(0), 1);
        Check.due("state", x.cell(0, 0, 0, 0), 13);
        Check.due("wear", x.cell(0, 0, 0, 2), 31);
        Crossbarry y = new Crossbarry();
        y.layer(1, 1);
        y.weight(0, 0, 0, 15);
        y.place(0, 0);
        y.weight(0, 0, 0, 0);
        Check.due("from 15 down to 0", y.load(0), 0);
        Check.due("in 8 pulses, 0 at least", y.cell(0, 0, 0, 2), 23);
        y.weight(0, 0, 0, 3);
        y.load(0);
        y.weight(0, 0, 0, 2);
        y.load(0);
        Check.due("3, 1, 2: two pulses", y.cell(0, 0, 0, 2), 28);
    }

    private static void promise13Pass() {
        Crossbarry x = new Crossbarry();
        Check.due("one hour", x.pass(1), 1);
        Check.argument("no hours", () -> x.pass(0));
        Check.argument("hours below 0", () -> x.pass(-1));
        Check.argument("too many hours", () -> x.pass(10001));
        Check.argument("too many hours", () -> x.pass(MAX));
        Check.due("refused hours do not go by", x.hour(), 1);
        for (int time = 1; time < 100; time++) {
            x.pass(10000);
        }
        Check.due("hour", x.hour(), 990001);
        Check.state("above 1000000", () -> x.pass(10000));
        Check.due("hour", x.hour(), 990001);
        Check.due("to 1000000", x.pass(9999), 1000000);
        Check.state("above 1000000", () -> x.pass(1));
        Check.argument("out of range first", () -> x.pass(10001));
        Check.due("hour", x.hour(), 1000000);
    }

    private static void promise14Converter() {
        Crossbarry x = new Crossbarry();
        Check.due("before", x.converter(1, 16, 3), 1127);
        Check.due("before", x.converter(1, 2, 1), 16003);
        Check.due("another tile", x.converter(0, 1, 127), 1127);
        Check.index("no tile", () -> x.converter(6, 1, 1));
        Check.index("no tile, and out of range", () -> x.converter(-1, 0, 0));
        Check.argument("step too small", () -> x.converter(1, 0, 1));
        Check.argument("step too great", () -> x.converter(1, 17, 1));
        Check.argument("top too small", () -> x.converter(1, 1, 0));
        Check.argument("top too great", () -> x.converter(1, 1, 128));
        Check.argument("step too small", () -> x.converter(1, MIN, 1));
        Check.due("refused converters change nothing", x.converter(1, 1, 127), 2001);
    }

    private static void promise15Offset() {
        Crossbarry x = new Crossbarry();
        Check.due("before", x.offset(0, 15, -3), 0);
        Check.due("before", x.offset(0, 15, 3), -3);
        Check.due("another column", x.offset(0, 0, 1), 0);
        Check.due("another tile", x.offset(5, 15, 1), 0);
        Check.index("no tile", () -> x.offset(6, 0, 0));
        Check.index("no tile", () -> x.offset(-1, 0, 9));
        Check.index("no column", () -> x.offset(0, 16, 0));
        Check.index("no column, and out of range", () -> x.offset(0, -1, 4));
        Check.argument("too great", () -> x.offset(0, 15, 4));
        Check.argument("too small", () -> x.offset(0, 15, -4));
        Check.argument("too small", () -> x.offset(0, 15, MIN));
        Check.due("refused offsets change nothing", x.offset(0, 15, 0), 3);
    }

    private static void promise16Calibrate() {
        Crossbarry x = new Crossbarry();
        Check.due("before", x.calibrate(2, true), false);
        Check.due("before", x.calibrate(2, true), true);
        Check.due("before", x.calibrate(2, false), true);
        Check.due("another tile", x.calibrate(3, false), false);
        Check.index("no tile", () -> x.calibrate(6, true));
        Check.index("no tile", () -> x.calibrate(-1, true));
        Check.index("no tile", () -> x.calibrate(MIN, false));
    }

    private static void promise17Converters() {
        Crossbarry x = new Crossbarry();
        int before = 4;
        for (int many = 1; many <= 16; many *= 2) {
            Check.due("before", x.converters(3, many), before);
            before = many;
        }
        Check.due("another tile", x.converters(2, 1), 4);
        int[] bad = {MIN, -4, -1, 0, 3, 5, 6, 7, 9, 10, 12, 15, 17, 32, 1 << 30, MAX};
        for (int many : bad) {
            Check.argument(many + " converters", () -> x.converters(3, many));
        }
        Check.index("no tile", () -> x.converters(6, 4));
        Check.index("no tile, and none of these", () -> x.converters(-1, 3));
        Check.due("refused converters change nothing", x.converters(3, 4), 16);
    }
}
