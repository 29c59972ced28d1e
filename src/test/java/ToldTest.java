/**
 * "Layers, weights, faults, converters and hours are told, layers placed and loaded": what each of these calls changes,
 * and that it changes nothing else. What is asked is looked at in AskedRefusedTest.
 */
public final class ToldTest {
    public static void main(String[] args) {
        promise2TellsALayer();
        promise3TellsAWeight();
        promise4TellsAShift();
        promise5TellsANextLayer();
        promise6Places();
        promise7Loads();
        promise8Lifts();
        whatWasToldOfATileStays();
        promise9Sticks();
        promise10Spoils();
        promise11TellsTheDrift();
        promise12TellsTheEndurance();
        promise13LetsHoursGoBy();
        promise14TellsHowATileConverts();
        promise15TellsAnOffset();
        promise16TellsWhetherCalibrated();
        promise17TellsConverters();
        Check.finish();
    }

    /** One call changes what was told, and the other tells it back: all is as before. */
    private static void toldAndToldBack(String what, Twins.Calls call, Twins.Calls both) {
        Twins.changed(what, Busy::machine, call, Twins.TOLD);
        Twins.unchanged(what + " and back", Busy::machine, both);
    }

    private static void promise2TellsALayer() {
        Twins.changed("layer", Busy::machine, x -> x.layer(8, 4), Twins.TOLD, Twins.PLACED, Twins.FREE);
        Twins.changed("first layer", Busy::fresh, x -> x.layer(1, 1), Twins.TOLD, Twins.PLACED, Twins.FREE);
    }

    /** "Tells a weight; cells do not change by that." */
    private static void promise3TellsAWeight() {
        for (int number = 0; number < 4; number++) {
            int layer = number;
            toldAndToldBack("weight of layer " + layer, x -> x.weight(layer, 1, 0, 99),
                    x -> x.weight(layer, 1, 0, x.weight(layer, 1, 0, 99)));
        }
        toldAndToldBack("last weight", x -> x.weight(2, 7, 3, 1), x -> x.weight(2, 7, 3, x.weight(2, 7, 3, 1)));
        Twins.unchanged("the same weight", Busy::machine, x -> x.weight(0, 0, 0, 0x46));
    }

    private static void promise4TellsAShift() {
        for (int number = 0; number < 4; number++) {
            int layer = number;
            toldAndToldBack("shift of layer " + layer, x -> x.shift(layer, 9), x -> x.shift(layer, x.shift(layer, 9)));
        }
    }

    private static void promise5TellsANextLayer() {
        toldAndToldBack("none", x -> x.next(0, -1), x -> x.next(0, x.next(0, -1)));
        toldAndToldBack("another", x -> x.next(0, 1), x -> x.next(0, x.next(0, 1)));
        toldAndToldBack("some", x -> x.next(2, 3), x -> x.next(2, x.next(2, 3)));
        Twins.unchanged("the same", Busy::machine, x -> x.next(0, 2));
        Twins.unchanged("none as before", Busy::machine, x -> x.next(1, -1));
    }

    private static void promise6Places() {
        Twins.changed("place", Busy::machine, x -> x.place(1, 4), Twins.cells(4, 0), Twins.PLACED, Twins.FREE);
        Twins.changed("place, stuck cells", Busy::machine, x -> x.place(1, 3), Twins.cells(3, 0), Twins.PLACED, Twins.FREE);
        Twins.changed("place", x -> x.layer(8, 4), x -> x.place(0, 0), Twins.PLACED, Twins.FREE);
    }

    private static void promise7Loads() {
        Twins.changed("load", Busy::machine, x -> x.load(0), Twins.cells(0, 0));
        Twins.changed("load", Busy::machine, x -> x.load(2), Twins.cells(5, 0), Twins.cells(5, 1));
        Twins.changed("load", Busy::machine, x -> x.load(3), Twins.cells(2, 0), Twins.cells(2, 1));
        Twins.unchanged("load, all as needed", x -> {
            x.layer(2, 2);
            x.weight(0, 1, 1, 99);
            x.place(0, 0);
        }, x -> x.load(0));
    }

    /** "Lifts a layer": "the cells stay as they are". */
    private static void promise8Lifts() {
        Twins.changed("lift", Busy::machine, x -> x.lift(0), Twins.PLACED, Twins.FREE);
        Twins.changed("lift", Busy::machine, x -> x.lift(2), Twins.PLACED, Twins.FREE);
        Twins.changed("lift", Busy::machine, x -> x.lift(3), Twins.PLACED, Twins.FREE);
    }

    /** Layers come and go; how their tile converts, and what was told of them, stays. */
    private static void whatWasToldOfATileStays() {
        Twins.Calls told = x -> {
            x.layer(2, 4);
            x.layer(4, 1);
            x.weight(0, 1, 3, 0x77);
            x.shift(0, 7);
            x.next(0, 1);
            for (int column = 0; column < 16; column++) {
                x.offset(4, column, column % 3 - 3);
            }
            x.converter(4, 5, 6);
            x.calibrate(4, true);
            x.converters(4, 2);
        };
        Twins.changed("place", told, x -> x.place(0, 4), Twins.cells(4, 0), Twins.PLACED, Twins.FREE);
        Twins.Calls placed = x -> {
            told.on(x);
            x.place(0, 4);
            x.weight(0, 0, 0, -1);
        };
        Twins.changed("load", placed, x -> x.load(0), Twins.cells(4, 0));
        Twins.changed("lift", placed, x -> x.lift(0), Twins.PLACED, Twins.FREE);
        Twins.changed("stick", placed, x -> x.stick(4, 0, 0, 1), Twins.cells(4, 0));
        Twins.changed("spoil", placed, x -> x.spoil(4, 0, 1), Twins.cells(4, 0));
    }

    private static void promise9Sticks() {
        Twins.changed("stick", Busy::machine, x -> x.stick(4, 3, 15, 0), Twins.cells(4, 0));
        Twins.changed("stick", Busy::machine, x -> x.stick(0, 4, 0, 15), Twins.cells(0, 1));
        Twins.changed("stick a written one", Busy::machine, x -> x.stick(5, 7, 14, 1), Twins.cells(5, 1));
    }

    private static void promise10Spoils() {
        Twins.changed("spoil", Busy::machine, x -> x.spoil(4, 0, 1), Twins.cells(4, 0));
        Twins.changed("spoil", Busy::machine, x -> x.spoil(1, 1, 1), Twins.cells(1, 1));
        Twins.changed("spoil", Busy::machine, x -> x.spoil(5, 0, 2), Twins.cells(5, 0), Twins.cells(5, 1));
        Twins.unchanged("spoil the same again", x -> {
            Busy.machine(x);
            x.spoil(4, 0, 20);
        }, x -> x.spoil(4, 0, 20));
    }

    private static void promise11TellsTheDrift() {
        toldAndToldBack("drift", x -> x.drift(1), x -> x.drift(x.drift(1)));
        toldAndToldBack("no drift", x -> x.drift(0), x -> x.drift(x.drift(0)));
        Twins.unchanged("the same drift", Busy::machine, x -> x.drift(2));
    }

    private static void promise12TellsTheEndurance() {
        toldAndToldBack("endurance", x -> x.endurance(1), x -> x.endurance(x.endurance(1)));
        toldAndToldBack("endurance", x -> x.endurance(100000), x -> x.endurance(x.endurance(100000)));
        Twins.unchanged("the same endurance", Busy::machine, x -> x.endurance(40));
    }

    /** The states stay; what written ones conduct is less. */
    private static void promise13LetsHoursGoBy() {
        Twins.changed("pass", Busy::machine, x -> x.pass(1), Twins.cells(0, 0), Twins.cells(2, 0), Twins.cells(2, 1),
                Twins.cells(5, 0), Twins.cells(5, 1), Twins.TOLD);
        Twins.changed("pass", Busy::fresh, x -> x.pass(10000), Twins.TOLD);
    }

    private static void promise14TellsHowATileConverts() {
        toldAndToldBack("converter", x -> x.converter(0, 16, 127), x -> {
            int before = x.converter(0, 16, 127);
            x.converter(0, before / 1000, before % 1000);
        });
        toldAndToldBack("converter", x -> x.converter(4, 1, 1), x -> {
            int before = x.converter(4, 1, 1);
            x.converter(4, before / 1000, before % 1000);
        });
        Twins.unchanged("the same", Busy::machine, x -> x.converter(0, 2, 50));
    }

    private static void promise15TellsAnOffset() {
        toldAndToldBack("offset", x -> x.offset(5, 15, 3), x -> x.offset(5, 15, x.offset(5, 15, 3)));
        toldAndToldBack("offset", x -> x.offset(0, 0, 0), x -> x.offset(0, 0, x.offset(0, 0, 0)));
        Twins.unchanged("the same offset", Busy::machine, x -> x.offset(0, 0, 2));
    }

    private static void promise16TellsWhetherCalibrated() {
        toldAndToldBack("calibrate", x -> x.calibrate(0, true), x -> x.calibrate(0, x.calibrate(0, true)));
        toldAndToldBack("calibrate", x -> x.calibrate(5, false), x -> x.calibrate(5, x.calibrate(5, false)));
        Twins.unchanged("as it was", Busy::machine, x -> x.calibrate(5, true));
        Twins.unchanged("as it was", Busy::machine, x -> x.calibrate(0, false));
    }

    private static void promise17TellsConverters() {
        toldAndToldBack("converters", x -> x.converters(0, 16), x -> x.converters(0, x.converters(0, 16)));
        toldAndToldBack("converters", x -> x.converters(3, 1), x -> x.converters(3, x.converters(3, 1)));
        Twins.unchanged("the same", Busy::machine, x -> x.converters(3, 16));
    }
}
