/** Calls that other calls are tried behind: nothing is as at first, so that each change shows. */
final class Busy {
    private Busy() {
    }

    /**
     * Layer 0 (2 inputs, 1 output) on tile 0, layer 1 (3 inputs, 2 outputs) on none, layer 2 (8 inputs,
     * 4 outputs) on tile 5, layer 3 (5 inputs, 3 outputs) on tile 2; the chain goes from 0 to 2. Weights have been
     * told anew behind the placing, so that each further write shows; faults have been found by it, so that rows found
     * anew would be others. The hour is 3.
     */
    static void machine(Crossbarry x) {
        x.layer(2, 1);
        x.layer(3, 2);
        x.layer(8, 4);
        x.layer(5, 3);
        x.weight(0, 0, 0, 0x97);
        x.weight(0, 1, 0, -0x58);
        x.weight(1, 0, 0, 0x66);
        x.weight(1, 2, 1, -0x77);
        for (int input = 0; input < 8; input++) {
            x.weight(2, input, input % 4, 255 - 16 * input);
            x.weight(3, input % 5, input % 3, -255 + 16 * input);
        }
        x.weight(2, 0, 3, -0x90);
        x.shift(0, 3);
        x.shift(1, 20);
        x.shift(2, 1);
        x.next(0, 2);
        x.stick(5, 7, 15, 9);
        x.stick(3, 2, 4, 6);
        x.stick(2, 7, 12, 1);
        x.stick(2, 0, 10, 1);
        x.stick(0, 0, 3, 5);
        x.place(0, 0);
        x.place(2, 5);
        x.place(3, 2);
        x.drift(2);
        x.pass(3);
        x.endurance(40);
        x.converter(0, 2, 50);
        x.converter(5, 3, 100);
        x.offset(0, 0, 2);
        x.offset(5, 15, -3);
        x.calibrate(5, true);
        x.converters(3, 16);
        x.weight(0, 0, 0, 0x46);
        x.weight(2, 0, 0, -0x46);
        x.weight(3, 0, 0, 0x46);
    }

    /** The machine, with 6 layers. */
    static void full(Crossbarry x) {
        machine(x);
        x.layer(1, 1);
        x.layer(8, 4);
    }

    static void fresh(Crossbarry x) {
        // a new object, as it is
    }
}
