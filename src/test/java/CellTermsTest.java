/**
 * Terms, "Cells": each sentence that names a boundary, on either side of it. Above each test stands the sentence that
 * it looks at.
 */
public final class CellTermsTest {
    private static final int STATE = 0;
    private static final int CONDUCTS = 1;
    private static final int WEAR = 2;
    private static final int IS_STUCK = 3;
    private static final int IS_KNOWN = 4;

    public static void main(String[] args) {
        anObjectIsUsedFor512Calls();
        theHourIs0AtFirst();
        thereAreTheTiles0To5();
        eightRowsAndSixteenColumns();
        allCellsAtFirst();
        aStateIs0To15();
        theDriftIs0AtFirst();
        withTheDrift0ItsState();
        ifItIsStuckItsState();
        dividedByTheDriftRoundedDown();
        but0AtLeast();
        farMoreThanItsState();
        fromTheHourOfItsStateToNow();
        toTheLastHour();
        aWriteFirstTakesWhatItConducts();
        aWriteOfAStuckCellTakesItsState();
        nowIsTheHourOfItsState();
        theHourOfCellsNotWrittenStays();
        asLongAsItsStateIsNotTheWantedOne();
        sixteenPulsesAtMost();
        eachPulseWearsAStuckCellToo();
        eachStateToEachState();
        theEnduranceOrMore();
        theEnduranceIsToldLower();
        stuckOnTheWayDown();
        stuckAtTheStateThatItHasThen();
        thePulsesGoOn();
        theEnduranceIs1000AtFirst();
        theEnduranceIs100000AtMost();
        theSameForAllCells();
        theWriteHasFailed();
        onceKnownAlwaysKnown();
        Check.finish();
    }

    /** One weight of a layer of one input and one output, placed on tile 0: the low and the high plus cell. */
    private static Crossbarry placed(int weight) {
        Crossbarry x = new Crossbarry();
        x.layer(1, 1);
        x.weight(0, 0, 0, weight);
        x.place(0, 0);
        return x;
    }

    private static int rewritten(Crossbarry x, int weight) {
        x.weight(0, 0, 0, weight);
        return x.load(0);
    }

    private static void dueCell(String what, Crossbarry x, int column, int state, int wear, int isStuck, int isKnown) {
        Check.due(what + ", state", x.cell(0, 0, column, STATE), state);
        Check.due(what + ", wear", x.cell(0, 0, column, WEAR), wear);
        Check.due(what + ", stuck", x.cell(0, 0, column, IS_STUCK), isStuck);
        Check.due(what + ", known", x.cell(0, 0, column, IS_KNOWN), isKnown);
    }

    /** "An object is used for at most 512 calls after it has been made". */
    private static void anObjectIsUsedFor512Calls() {
        Crossbarry x = new Crossbarry();
        for (int call = 1; call < 512; call++) {
            Check.due("call " + call, x.pass(2), 2 * call);
        }
        Check.due("call 512", x.hour(), 1022);
        Crossbarry y = placed(5);
        for (int call = 4; call < 512; call++) {
            Check.due("call " + call, y.load(0), 0);
        }
        Check.due("call 512", y.wear(0), 5);
        Crossbarry z = new Crossbarry();
        for (int call = 1; call < 511; call++) {
            Check.index("call " + call, () -> z.tileOf(0));
        }
        Check.due("call 511", z.layer(8, 4), 0);
        Check.due("call 512", z.place(0, 5), 0);
    }

    /** "The hour is 0 at first." */
    private static void theHourIs0AtFirst() {
        Check.due("hour", new Crossbarry().hour(), 0);
        Check.due("the first hour that goes by", new Crossbarry().pass(1), 1);
    }

    /** "There are the tiles 0 to 5." Each is a tile of its own. */
    private static void thereAreTheTiles0To5() {
        Crossbarry x = new Crossbarry();
        for (int tile = 0; tile < 6; tile++) {
            x.stick(tile, 3, 9, 2 + tile);
            x.converter(tile, 1 + tile, 10 + tile);
            x.offset(tile, tile, tile % 3 + 1);
            x.converters(tile, 1 << tile % 5);
        }
        for (int tile = 0; tile < 6; tile++) {
            Check.due("its cell", x.cell(tile, 3, 9, STATE), 2 + tile);
            Check.due("its share", x.share(tile), 1 / 128f);
            Check.due("its step and top", x.converter(tile, 1, 1), 1010 + 1001 * tile);
            for (int column = 0; column < 6; column++) {
                Check.due("its offsets", x.offset(tile, column, 0), column == tile ? tile % 3 + 1 : 0);
            }
            Check.due("its converters", x.converters(tile, 4), 1 << tile % 5);
        }
        Check.index("no tile 6", () -> x.share(6));
        Check.index("no tile -1", () -> x.share(-1));
    }

    /** "A tile has 8 rows and 16 columns of cells, numbered from 0." All are cells of their own. */
    private static void eightRowsAndSixteenColumns() {
        Crossbarry x = new Crossbarry();
        for (int at = 0; at < 128; at++) {
            x.stick(3, at / 16, at % 16, (at * 7 + at / 16) % 16);
        }
        for (int at = 0; at < 128; at++) {
            Check.due("row " + at / 16 + ", column " + at % 16, x.cell(3, at / 16, at % 16, STATE), (at * 7 + at / 16) % 16);
        }
        Check.due("there are no more", x.share(3), 1f);
        Check.index("no row 8", () -> x.cell(3, 8, 0, STATE));
        Check.index("no column 16", () -> x.cell(3, 0, 16, STATE));
        Check.index("no row -1", () -> x.cell(3, -1, 15, STATE));
        Check.index("no column -1", () -> x.cell(3, 1, -1, STATE));
    }

    /** "A cell has a state, 0 to 15, 0 at first; a wear, 0 at first; .. It is sound at first". */
    private static void allCellsAtFirst() {
        for (int tile = 0; tile < 6; tile++) {
            for (int what = 0; what < 5; what++) {
                Crossbarry x = new Crossbarry();
                for (int at = 0; at < 128; at++) {
                    Check.due("at first, " + what, x.cell(tile, at / 16, at % 16, what), 0);
                }
            }
        }
    }

    /** "A cell has a state, 0 to 15": both ends are reached by writing and by sticking. */
    private static void aStateIs0To15() {
        Crossbarry x = placed(255);
        Check.due("15 is written", x.cell(0, 0, 0, STATE), 15);
        Check.due("15 is written", x.cell(0, 0, 1, STATE), 15);
        rewritten(x, 0);
        Check.due("0 is written", x.cell(0, 0, 0, STATE), 0);
        Check.due("0 is written", x.cell(0, 0, 1, STATE), 0);
        x.stick(0, 0, 0, 15);
        x.stick(0, 0, 1, 0);
        Check.due("15 is told", x.cell(0, 0, 0, STATE), 15);
        Check.due("0 is told", x.cell(0, 0, 1, STATE), 0);
    }

    /** "The drift is a number of hours, or 0, as at first." */
    private static void theDriftIs0AtFirst() {
        Check.due("as is told", new Crossbarry().drift(1000), 0);
        Crossbarry x = placed(15);
        x.pass(10000);
        Check.due("nothing drifts", x.cell(0, 0, 0, CONDUCTS), 15);
        Check.due("as is told", x.drift(1), 0);
        Check.due("it drifts by then", x.cell(0, 0, 0, CONDUCTS), 0);
    }

    /** "with the drift 0 .. its state". */
    private static void withTheDrift0ItsState() {
        Crossbarry x = placed(0xF1);
        x.pass(10000);
        Check.due("with the drift 0", x.cell(0, 0, 1, CONDUCTS), 15);
        Check.due("with the drift 0", x.cell(0, 0, 0, CONDUCTS), 1);
        x.drift(1);
        Check.due("with the drift 1", x.cell(0, 0, 1, CONDUCTS), 0);
        Check.due("its state stays", x.cell(0, 0, 1, STATE), 15);
        x.drift(0);
        Check.due("with the drift 0 again", x.cell(0, 0, 1, CONDUCTS), 15);
    }

    /** "and if it is stuck, its state". */
    private static void ifItIsStuckItsState() {
        Crossbarry x = placed(0x77);
        x.stick(0, 0, 1, 8);
        x.endurance(1);
        x.weight(0, 0, 0, -1);
        x.drift(1);
        Check.due("worn out at 5, at 0, and one failed write more", x.load(0), 2);
        x.pass(3);
        Check.due("stuck by being told", x.cell(0, 0, 1, CONDUCTS), 8);
        Check.due("stuck by wear", x.cell(0, 0, 0, CONDUCTS), 5);
        Check.due("stuck by wear", x.cell(0, 0, 2, CONDUCTS), 1);
        x.spoil(4, 0, 1);
        x.pass(100);
        Check.due("stuck by a spoil", x.cell(4, 1, 9, CONDUCTS), 6);
        Crossbarry y = placed(7);
        y.drift(1);
        y.pass(3);
        Check.due("a sound one drifts", y.cell(0, 0, 0, CONDUCTS), 4);
        y.stick(0, 0, 0, 7);
        Check.due("a stuck one does not", y.cell(0, 0, 0, CONDUCTS), 7);
    }

    /** "divided by the drift, rounded down". */
    private static void dividedByTheDriftRoundedDown() {
        for (int drift : new int[] {1, 2, 3, 7, 10, 500, 999, 1000}) {
            for (int lost = 1; lost < 15; lost++) {
                Crossbarry x = placed(15);
                x.drift(drift);
                passTo(x, lost * drift - 1);
                Check.due("an hour less than " + lost + " times " + drift, x.cell(0, 0, 0, CONDUCTS), 15 - (lost - 1));
                x.pass(1);
                Check.due("the hours are " + lost + " times " + drift, x.cell(0, 0, 0, CONDUCTS), 15 - lost);
                Check.due("the state stays", x.cell(0, 0, 0, STATE), 15);
            }
        }
    }

    private static void passTo(Crossbarry x, int hours) {
        for (int left = hours; left > 0; left -= 10000) {
            x.pass(Math.min(left, 10000));
        }
    }

    /** "but 0 at least". */
    private static void but0AtLeast() {
        for (int state = 1; state < 16; state++) {
            Crossbarry x = placed(state);
            x.drift(3);
            x.pass(3 * state - 1);
            Check.due("1 is left of " + state, x.cell(0, 0, 0, CONDUCTS), 1);
            x.pass(1);
            Check.due("none is left of " + state, x.cell(0, 0, 0, CONDUCTS), 0);
            x.pass(3);
            Check.due("0 at least, of " + state, x.cell(0, 0, 0, CONDUCTS), 0);
            x.pass(10000);
            Check.due("0 at least, of " + state, x.cell(0, 0, 0, CONDUCTS), 0);
            Check.due("a cell of state 0", x.cell(0, 0, 1, CONDUCTS), 0);
        }
    }

    /** "but 0 at least": also where what is lost is far more than any state. */
    private static void farMoreThanItsState() {
        Crossbarry x = placed(15);
        x.drift(1);
        for (int hour = 1; hour <= 250; hour++) {
            x.pass(1);
            Check.due("hour " + hour, x.cell(0, 0, 0, CONDUCTS), Math.max(0, 15 - hour));
        }
        Crossbarry y = placed(15);
        y.drift(1);
        passTo(y, 240);
        for (int hour = 241; hour <= 480; hour++) {
            y.pass(1);
            Check.due("hour " + hour, y.cell(0, 0, 0, CONDUCTS), 0);
        }
        for (int power = 9; power < 20; power++) {
            Crossbarry z = placed(15);
            z.drift(1);
            passTo(z, (1 << power) - 16);
            for (int hour = 0; hour < 32; hour++) {
                z.pass(1);
                Check.due("about 2 to the power of " + power, z.cell(0, 0, 0, CONDUCTS), 0);
            }
        }
    }

    /** "the hours from the hour of its state to now": with the drift that is told now. */
    private static void fromTheHourOfItsStateToNow() {
        Crossbarry x = new Crossbarry();
        x.layer(1, 1);
        x.weight(0, 0, 0, 12);
        x.drift(4);
        x.pass(100);
        x.place(0, 0);
        Check.due("the hours before the write do not count", x.cell(0, 0, 0, CONDUCTS), 12);
        x.pass(12);
        Check.due("12 hours by 4", x.cell(0, 0, 0, CONDUCTS), 9);
        x.drift(3);
        Check.due("12 hours by 3", x.cell(0, 0, 0, CONDUCTS), 8);
        x.drift(13);
        Check.due("12 hours by 13", x.cell(0, 0, 0, CONDUCTS), 12);
        x.drift(12);
        Check.due("12 hours by 12", x.cell(0, 0, 0, CONDUCTS), 11);
    }

    private static void toTheLastHour() {
        Crossbarry x = placed(0xF);
        x.drift(1);
        passTo(x, 999995);
        Check.due("0 at least", x.cell(0, 0, 0, CONDUCTS), 0);
        Check.due("written anew", x.load(0), 0);
        Check.due("from 0 on", x.cell(0, 0, 0, WEAR), 30);
        x.pass(5);
        Check.due("5 hours", x.cell(0, 0, 0, CONDUCTS), 10);
        Check.state("there are no more", () -> x.pass(1));
        Check.due("5 hours", x.cell(0, 0, 0, CONDUCTS), 10);
    }

    /** "First, if it is sound, its state becomes what it conducts now". */
    private static void aWriteFirstTakesWhatItConducts() {
        Crossbarry x = placed(9);
        x.drift(1);
        x.pass(6);
        Check.due("conducts", x.cell(0, 0, 0, CONDUCTS), 3);
        Check.due("to 5", rewritten(x, 5), 0);
        dueCell("up from 3, not down from 9", x, 0, 5, 11, 0, 0);
        x.pass(2);
        Check.due("to 3", rewritten(x, 3), 0);
        dueCell("what it conducts is wanted", x, 0, 3, 11, 0, 0);
        x.pass(1);
        Check.due("to 1", rewritten(x, 1), 0);
        dueCell("down from 2 to 0, up to 1", x, 0, 1, 13, 0, 0);
        x.pass(100);
        Check.due("to 1 again", rewritten(x, 1), 0);
        dueCell("up from 0", x, 0, 1, 14, 0, 0);
        x.pass(100);
        Check.due("to 0", rewritten(x, 0), 0);
        dueCell("it is 0 without a pulse", x, 0, 0, 14, 0, 0);
        x.drift(0);
        Check.due("and 0 is its state", x.cell(0, 0, 0, CONDUCTS), 0);
    }

    /** "if it is sound": a stuck one keeps its state. */
    private static void aWriteOfAStuckCellTakesItsState() {
        Crossbarry x = placed(9);
        x.stick(0, 0, 0, 9);
        x.drift(1);
        x.pass(6);
        Check.due("it has the wanted one", x.load(0), 0);
        dueCell("stuck at 9", x, 0, 9, 9, 1, 0);
        Check.due("it has not the one that a sound one would have", rewritten(x, 3), 1);
        dueCell("stuck at 9", x, 0, 9, 25, 1, 1);
    }

    /** "and now is the hour of its state". */
    private static void nowIsTheHourOfItsState() {
        Crossbarry x = placed(8);
        x.drift(5);
        x.pass(4);
        Check.due("a write without a pulse", x.load(0), 0);
        Check.due("no pulse", x.cell(0, 0, 0, WEAR), 8);
        x.pass(4);
        Check.due("4 hours from then on", x.cell(0, 0, 0, CONDUCTS), 8);
        x.pass(1);
        Check.due("5 hours from then on", x.cell(0, 0, 0, CONDUCTS), 7);
        rewritten(x, 10);
        x.pass(4);
        Check.due("4 hours behind a write with pulses", x.cell(0, 0, 0, CONDUCTS), 10);
        x.pass(1);
        Check.due("5 hours behind a write with pulses", x.cell(0, 0, 0, CONDUCTS), 9);
        x.drift(0);
        x.load(0);
        x.drift(1);
        Check.due("with the drift 0 now is the hour too", x.cell(0, 0, 0, CONDUCTS), 10);
        x.pass(1);
        Check.due("an hour later", x.cell(0, 0, 0, CONDUCTS), 9);
    }

    /** "To load a layer is to write all cells that it needs": no others. */
    private static void theHourOfCellsNotWrittenStays() {
        Crossbarry x = new Crossbarry();
        x.layer(2, 2);
        x.layer(1, 1);
        for (int at = 0; at < 4; at++) {
            x.weight(0, at / 2, at % 2, 10);
        }
        x.weight(1, 0, 0, 10);
        x.place(0, 0);
        x.lift(0);
        x.drift(1);
        x.pass(2);
        x.place(1, 0);
        Check.due("written now", x.cell(0, 0, 0, CONDUCTS), 10);
        Check.due("of another output", x.cell(0, 0, 4, CONDUCTS), 8);
        Check.due("of another row", x.cell(0, 1, 0, CONDUCTS), 8);
        Check.due("with its state", x.cell(0, 1, 0, STATE), 10);
    }

    /** "Then it gets pulses .. as long as its state is not the wanted one". */
    private static void asLongAsItsStateIsNotTheWantedOne() {
        Crossbarry x = placed(0);
        Check.due("none from 0 to 0", x.wear(0), 0);
        rewritten(x, 1);
        dueCell("one from 0 to 1", x, 0, 1, 1, 0, 0);
        x.load(0);
        dueCell("none from 1 to 1", x, 0, 1, 1, 0, 0);
        rewritten(x, 15);
        dueCell("14 from 1 to 15", x, 0, 15, 15, 0, 0);
        x.load(0);
        dueCell("none from 15 to 15", x, 0, 15, 15, 0, 0);
    }

    /** "16 at most". */
    private static void sixteenPulsesAtMost() {
        for (int state = 0; state < 16; state++) {
            for (int wanted = 0; wanted < 16; wanted++) {
                Crossbarry x = new Crossbarry();
                x.layer(1, 1);
                x.weight(0, 0, 0, wanted);
                x.stick(0, 0, 0, state);
                boolean fails = state != wanted;
                Check.due("writes failed", x.place(0, 0), fails ? 1 : 0);
                dueCell("stuck at " + state, x, 0, state, fails ? 16 : 0, 1, fails ? 1 : 0);
            }
        }
    }

    /** "With each pulse its wear is 1 more." */
    private static void eachPulseWearsAStuckCellToo() {
        Crossbarry x = new Crossbarry();
        x.layer(1, 1);
        x.stick(0, 0, 3, 1);
        x.place(0, 0);
        for (int time = 1; time <= 250; time++) {
            Check.due("its wear", x.cell(0, 0, 3, WEAR), 16 * time);
            x.load(0);
        }
        Check.due("all wear", x.wear(0), 16 * 251);
    }

    /**
     * "A pulse makes the state of a sound cell 1 more, if it is below the wanted one; otherwise 2 less, but 0 at
     * least". The low plus cells of 8 inputs and 2 outputs go to all 16 states.
     */
    private static void eachStateToEachState() {
        for (int state = 0; state < 16; state++) {
            Crossbarry x = new Crossbarry();
            x.layer(8, 2);
            for (int at = 0; at < 16; at++) {
                x.weight(0, at / 2, at % 2, state);
            }
            Check.due("writes failed", x.place(0, 4), 0);
            for (int at = 0; at < 16; at++) {
                x.weight(0, at / 2, at % 2, at);
            }
            Check.due("writes failed", x.load(0), 0);
            for (int wanted = 0; wanted < 16; wanted++) {
                int column = wanted % 2 * 4;
                String what = "from " + state + " to " + wanted;
                Check.due(what, x.cell(4, wanted / 2, column, STATE), wanted);
                Check.due(what + ", pulses", x.cell(4, wanted / 2, column, WEAR) - state, pulses(state, wanted));
            }
        }
    }

    private static int pulses(int state, int wanted) {
        int above = state - wanted;
        if (above <= 0) {
            return -above;
        }
        boolean goesBelow = above % 2 == 1 && wanted > 0;
        return (above + 1) / 2 + (goesBelow ? 1 : 0);
    }

    /** "If, behind a pulse, the wear of a sound cell is the endurance or more, it is stuck from then on". */
    private static void theEnduranceOrMore() {
        for (int endurance = 1; endurance <= 17; endurance++) {
            Crossbarry x = new Crossbarry();
            x.layer(1, 1);
            x.weight(0, 0, 0, 9);
            x.endurance(endurance);
            int failed = x.place(0, 0);
            String what = "9 pulses of " + endurance;
            if (endurance > 9) {
                Check.due(what, failed, 0);
                dueCell(what, x, 0, 9, 9, 0, 0);
            } else if (endurance == 9) {
                Check.due(what, failed, 0);
                dueCell(what, x, 0, 9, 9, 1, 0);
            } else {
                Check.due(what, failed, 1);
                dueCell(what, x, 0, endurance, 16, 1, 1);
            }
        }
    }

    /** "or more": the endurance is told lower than the wear; only a pulse makes it stuck then. */
    private static void theEnduranceIsToldLower() {
        Crossbarry x = placed(9);
        x.endurance(3);
        dueCell("not by telling", x, 0, 9, 9, 0, 0);
        Check.due("a write without a pulse", x.load(0), 0);
        dueCell("not by a write without a pulse", x, 0, 9, 9, 0, 0);
        Check.due("one pulse", rewritten(x, 10), 0);
        dueCell("by one pulse, at what is wanted", x, 0, 10, 10, 1, 0);
        Crossbarry y = placed(9);
        y.endurance(1);
        Check.due("two pulses", rewritten(y, 11), 1);
        dueCell("by the first one", y, 0, 10, 25, 1, 1);
        Crossbarry z = placed(9);
        z.endurance(3);
        z.endurance(1000);
        Check.due("told higher again", rewritten(z, 11), 0);
        dueCell("sound", z, 0, 11, 11, 0, 0);
        z.endurance(12);
        rewritten(z, 12);
        z.endurance(100000);
        dueCell("stuck from then on", z, 0, 12, 12, 1, 0);
        Check.due("stuck from then on", rewritten(z, 13), 1);
    }

    /** "2 less", and behind that "it is stuck .. at the state that it has then". */
    private static void stuckOnTheWayDown() {
        int[] states = {13, 11, 9, 7, 5, 3, 1, 0};
        for (int pulse = 1; pulse <= 9; pulse++) {
            Crossbarry x = placed(15);
            x.endurance(15 + pulse);
            int failed = rewritten(x, 0);
            String what = "down from 15, pulse " + pulse;
            if (pulse < 8) {
                Check.due(what, failed, 1);
                dueCell(what, x, 0, states[pulse - 1], 31, 1, 1);
            } else {
                Check.due(what, failed, 0);
                dueCell(what, x, 0, 0, 23, pulse == 8 ? 1 : 0, 0);
            }
        }
    }

    /** "at the state that it has then": behind the pulse, also below the wanted one. */
    private static void stuckAtTheStateThatItHasThen() {
        Crossbarry x = placed(3);
        x.endurance(4);
        Check.due("from 3 by 1 to 2", rewritten(x, 2), 1);
        dueCell("1, below the wanted one", x, 0, 1, 19, 1, 1);
        Crossbarry y = placed(1);
        y.endurance(2);
        Check.due("from 1 to 0", rewritten(y, 0), 0);
        dueCell("0 at least, and stuck there", y, 0, 0, 2, 1, 0);
    }

    /** "and the pulses go on". */
    private static void thePulsesGoOn() {
        Crossbarry x = placed(5);
        x.endurance(6);
        Check.due("stuck by the first one of 10", rewritten(x, 15), 1);
        dueCell("16 in all", x, 0, 6, 21, 1, 1);
        Check.due("and 16 more", x.load(0), 1);
        dueCell("32 in all", x, 0, 6, 37, 1, 1);
        Check.due("none at the wanted one", rewritten(x, 6), 0);
        dueCell("32 in all", x, 0, 6, 37, 1, 1);
    }

    /** A cell with 990 pulses, by 66 times 15 of them. */
    private static Crossbarry withWear990() {
        Crossbarry x = placed(15);
        x.drift(1);
        for (int time = 1; time < 66; time++) {
            x.pass(15);
            x.load(0);
        }
        x.drift(0);
        return x;
    }

    /** "The endurance is 1000 at first". */
    private static void theEnduranceIs1000AtFirst() {
        Crossbarry x = withWear990();
        dueCell("990 pulses", x, 0, 15, 990, 0, 0);
        rewritten(x, 0);
        dueCell("8 pulses more", x, 0, 0, 998, 0, 0);
        rewritten(x, 1);
        dueCell("sound with 999", x, 0, 1, 999, 0, 0);
        rewritten(x, 2);
        dueCell("stuck with 1000", x, 0, 2, 1000, 1, 0);
        Check.due("as is told", new Crossbarry().endurance(5), 1000);
    }

    private static void theEnduranceIs100000AtMost() {
        Crossbarry x = withWear990();
        x.endurance(100000);
        rewritten(x, 0);
        rewritten(x, 15);
        dueCell("no longer 1000", x, 0, 15, 1013, 0, 0);
    }

    /** "the same for all cells". */
    private static void theSameForAllCells() {
        Crossbarry x = new Crossbarry();
        x.layer(8, 4);
        for (int at = 0; at < 32; at++) {
            x.weight(0, at / 4, at % 4, at % 2 == 0 ? 0x34 : -0x43);
        }
        x.endurance(3);
        for (int tile = 0; tile < 6; tile++) {
            Check.due("one of each weight's cells fails, tile " + tile, x.place(0, tile), 32);
            Check.due("two of each weight's cells are stuck", x.share(tile), 0.5f);
            Check.due("3 pulses, and 16", x.wear(tile), 32 * 19);
            x.lift(0);
        }
    }

    /** "If at the end its state is not the wanted one, the write has failed, and the cell is known to be stuck." */
    private static void theWriteHasFailed() {
        Crossbarry x = new Crossbarry();
        x.layer(8, 4);
        for (int row = 0; row < 8; row++) {
            x.stick(2, row, 15, row % 2);
        }
        Check.due("those at 1 fail", x.place(0, 2), 4);
        for (int row = 0; row < 8; row++) {
            Check.due("known", x.cell(2, row, 15, IS_KNOWN), row % 2);
            Check.due("stuck", x.cell(2, row, 15, IS_STUCK), 1);
        }
        Crossbarry y = new Crossbarry();
        y.layer(8, 4);
        for (int at = 0; at < 128; at++) {
            y.stick(1, at / 16, at % 16, 1);
        }
        Check.due("all writes fail", y.place(0, 1), 128);
        Check.due("16 pulses each", y.wear(1), 2048);
        Crossbarry z = new Crossbarry();
        z.layer(8, 4);
        Check.due("no write fails", z.place(0, 1), 0);
        Check.due("no pulse", z.wear(1), 0);
    }

    private static void onceKnownAlwaysKnown() {
        Crossbarry x = new Crossbarry();
        x.layer(1, 1);
        x.stick(0, 0, 0, 4);
        x.place(0, 0);
        dueCell("it failed", x, 0, 4, 16, 1, 1);
        Check.due("a write to its state does not fail", rewritten(x, 4), 0);
        dueCell("it is known still", x, 0, 4, 16, 1, 1);
        x.lift(0);
        dueCell("it is known still", x, 0, 4, 16, 1, 1);
    }
}
