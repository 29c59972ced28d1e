/**
 * Terms, "Faults", and the promises 31 to 33: each sentence that names a boundary, on either side of it. Above each
 * test stands the sentence that it looks at.
 */
public final class FaultTermsTest {
    public static void main(String[] args) {
        theFirstDrawIsOfTheSeed();
        modulo65536();
        allSeedsAtTheEnds();
        twoDrawsEachTime();
        cellsOfAllRowsAndColumns();
        aSoundCellIsStuckThen();
        oneThatIsStuckStaysAsItIs();
        allCellsStuckAlready();
        notKnownBySpoiling();
        notKnownByBeingTold();
        aSpoiltCellKeepsItsWear();
        promise31AllCellsTogether();
        promise32FromNoneToAll();
        promise33TheHour();
        Check.finish();
    }

    private static void dueCell(String what, Crossbarry x, int tile, int cell, int state, int isStuck, int isKnown) {
        int row = cell / 16;
        int column = cell % 16;
        Check.due(what + ", state", x.cell(tile, row, column, 0), state);
        Check.due(what + ", stuck", x.cell(tile, row, column, 3), isStuck);
        Check.due(what + ", known", x.cell(tile, row, column, 4), isKnown);
    }

    /** "the first one of a seed: 25173 times it, and 13849". */
    private static void theFirstDrawIsOfTheSeed() {
        Crossbarry x = new Crossbarry();
        Check.due("one cell", x.spoil(0, 0, 1), 1);
        // 13849 leaves 25 by 128; 25173 * 13849 + 13849 is 48742 modulo 65536, which leaves 6 by 16
        dueCell("seed 0", x, 0, 25, 6, 1, 0);
        Check.due("one cell alone", x.share(0), 1 / 128f);
        Crossbarry y = new Crossbarry();
        y.spoil(0, 1, 1);
        // 39022 leaves 110; 25173 * 39022 + 13849 is 7119 modulo 65536, which leaves 15
        dueCell("seed 1", y, 0, 110, 15, 1, 0);
    }

    /** "modulo 65536": the draw wraps round. */
    private static void modulo65536() {
        // 25173 * 2 + 13849 is 64195, still below; 25173 * 3 + 13849 is 89368, above
        dueSpoilt(2, 64195);
        dueSpoilt(3, 89368 - 65536);
        // 25173 * 65535 + 13849, the greatest of all
        dueSpoilt(65535, (int) ((25173L * 65535 + 13849) % 65536));
        Check.due("the greatest of all", (int) ((25173L * 65535 + 13849) % 65536), 54212);
        dueSpoilt(65534, 54212 - 25173);
    }

    private static void dueSpoilt(int seed, int firstDraw) {
        Crossbarry x = new Crossbarry();
        x.spoil(0, seed, 1);
        int second = (int) ((25173L * firstDraw + 13849) % 65536);
        dueCell("seed " + seed, x, 0, firstDraw % 128, second % 16, 1, 0);
    }

    /** "seed: 0 to 65535", "many: 1 to 20": all cells of the tile behind that. */
    private static void allSeedsAtTheEnds() {
        for (int seed : new int[] {0, 1, 127, 128, 255, 32767, 32768, 65408, 65534, 65535}) {
            for (int many : new int[] {1, 2, 19, 20}) {
                int[] states = new int[128];
                java.util.Arrays.fill(states, -1);
                long draw = seed;
                for (int time = 0; time < many; time++) {
                    draw = (draw * 25173 + 13849) % 65536;
                    int cell = (int) (draw % 128);
                    draw = (draw * 25173 + 13849) % 65536;
                    states[cell] = states[cell] == -1 ? (int) (draw % 16) : states[cell];
                }
                Crossbarry x = new Crossbarry();
                Check.due("as many", x.spoil(5, seed, many), many);
                for (int cell = 0; cell < 128; cell++) {
                    dueCell("seed " + seed, x, 5, cell, Math.max(0, states[cell]), states[cell] == -1 ? 0 : 1, 0);
                }
                Check.due("no other tile", x.share(4), 0f);
            }
        }
    }

    /** "of the next draw the remainder by 16 tells a state": the next cell is of the draw behind that. */
    private static void twoDrawsEachTime() {
        Crossbarry x = new Crossbarry();
        x.spoil(0, 0, 2);
        // the draws are 13849, 48742, 31223 and 17180
        dueCell("the second cell", x, 0, 31223 % 128, 17180 % 16, 1, 0);
        dueCell("no cell of the second draw", x, 0, 48742 % 128, 0, 0, 0);
        Crossbarry y = new Crossbarry();
        y.stick(0, 1, 9, 2);
        Check.due("a stuck cell takes two draws too", y.spoil(0, 0, 2), 1);
        dueCell("the second cell", y, 0, 31223 % 128, 17180 % 16, 1, 0);
    }

    /** "16 times its row, and its column, together": each cell is told by some draw. */
    private static void cellsOfAllRowsAndColumns() {
        boolean[] isSeen = new boolean[128];
        for (int seed = 0; seed < 128; seed++) {
            Crossbarry x = new Crossbarry();
            x.spoil(2, seed, 1);
            int cell = (25173 * seed + 13849) % 65536 % 128;
            Check.due("stuck, seed " + seed, x.cell(2, cell / 16, cell % 16, 3), 1);
            Check.due("no other one", x.share(2), 1 / 128f);
            isSeen[cell] = true;
        }
        Check.due("the first cell", isSeen[0], true);
        Check.due("the last cell", isSeen[127], true);
    }

    /** "a sound cell is stuck then, at that state". */
    private static void aSoundCellIsStuckThen() {
        Crossbarry x = new Crossbarry();
        x.layer(2, 3);
        x.weight(0, 1, 2, 0xCC);
        x.place(0, 0);
        x.drift(1);
        x.pass(2);
        dueCell("sound", x, 0, 25, 12, 0, 0);
        Check.due("it drifts", x.cell(0, 1, 9, 1), 10);
        Check.due("spoilt", x.spoil(0, 0, 1), 1);
        dueCell("stuck", x, 0, 25, 6, 1, 0);
        Check.due("it does not drift", x.cell(0, 1, 9, 1), 6);
        Check.due("its write fails", x.load(0), 1);
        dueCell("known then", x, 0, 25, 6, 1, 1);
    }

    /** "one that is stuck stays as it is". */
    private static void oneThatIsStuckStaysAsItIs() {
        for (int state = 0; state < 16; state++) {
            Crossbarry x = new Crossbarry();
            x.stick(0, 1, 9, state);
            Check.due("none is stuck by that", x.spoil(0, 0, 1), 0);
            dueCell("as it was", x, 0, 25, state, 1, 0);
        }
        Crossbarry y = new Crossbarry();
        Check.due("at first", y.spoil(0, 0, 20), 20);
        Check.due("the same ones", y.spoil(0, 0, 20), 0);
        Check.due("the share", y.share(0), 20 / 128f);
        dueCell("as it was", y, 0, 25, 6, 1, 0);
        Check.due("another tile", y.spoil(1, 0, 20), 20);
    }

    /** A tile that is full of stuck cells. */
    private static void allCellsStuckAlready() {
        Crossbarry x = new Crossbarry();
        for (int cell = 0; cell < 127; cell++) {
            x.stick(3, (cell < 25 ? cell : cell + 1) / 16, (cell < 25 ? cell : cell + 1) % 16, 3);
        }
        Check.due("all but one", x.share(3), 127 / 128f);
        Check.due("the last one", x.spoil(3, 0, 20), 1);
        Check.due("all", x.share(3), 1f);
        Check.due("none is left", x.spoil(3, 0, 20), 0);
        Check.due("none is left", x.spoil(3, 77, 20), 0);
        dueCell("as it was", x, 3, 0, 3, 1, 0);
        dueCell("the last one", x, 3, 25, 6, 1, 0);
        Check.state("none is left to be told", () -> x.stick(3, 1, 9, 6));
    }

    /** "That a cell is stuck by this .. is not known." */
    private static void notKnownBySpoiling() {
        Crossbarry x = new Crossbarry();
        x.layer(2, 3);
        x.spoil(0, 0, 1);
        dueCell("not known", x, 0, 25, 6, 1, 0);
        Check.due("no misfit", x.misfits(0, 0), 0);
        Check.due("its write fails", x.place(0, 0), 1);
        dueCell("known", x, 0, 25, 6, 1, 1);
        x.spoil(0, 0, 1);
        dueCell("known still", x, 0, 25, 6, 1, 1);
    }

    /** "or by being told, is not known". */
    private static void notKnownByBeingTold() {
        Crossbarry x = new Crossbarry();
        x.layer(1, 1);
        x.stick(0, 0, 0, 3);
        dueCell("not known", x, 0, 0, 3, 1, 0);
        Check.due("no misfit", x.misfits(0, 0), 0);
        Check.due("its write fails", x.place(0, 0), 1);
        dueCell("known", x, 0, 0, 3, 1, 1);
        x.stick(0, 0, 2, 0);
        Check.due("one write fails", x.load(0), 1);
        dueCell("not found, as it has the wanted state", x, 0, 2, 0, 1, 0);
    }

    private static void aSpoiltCellKeepsItsWear() {
        Crossbarry x = new Crossbarry();
        x.layer(2, 3);
        x.weight(0, 1, 2, 0x50);
        x.place(0, 0);
        x.spoil(0, 0, 1);
        Check.due("its wear", x.cell(0, 1, 9, 2), 5);
        x.stick(0, 0, 0, 9);
        Check.due("all wear", x.wear(0), 5);
    }

    /** "the wear of all cells of a tile, together". */
    private static void promise31AllCellsTogether() {
        for (int at = 0; at < 128; at++) {
            Crossbarry x = new Crossbarry();
            x.layer(8, 4);
            x.stick(5, at / 16, at % 16, 1);
            x.place(0, 5);
            Check.due("the wear of one cell", x.wear(5), 16);
            Check.due("no other tile's", x.wear(0), 0);
        }
        Crossbarry y = new Crossbarry();
        y.layer(8, 4);
        Check.due("none at first", y.wear(0), 0);
        for (int at = 0; at < 32; at++) {
            y.weight(0, at / 4, at % 4, 255);
        }
        y.place(0, 0);
        Check.due("64 cells of 15 pulses", y.wear(0), 960);
        for (int at = 0; at < 32; at++) {
            y.weight(0, at / 4, at % 4, -255);
        }
        y.load(0);
        Check.due("and 8 pulses down, 15 pulses up", y.wear(0), 960 + 64 * 23);
        Crossbarry z = new Crossbarry();
        z.layer(8, 4);
        for (int at = 0; at < 128; at++) {
            z.stick(3, at / 16, at % 16, 15);
        }
        Check.due("all writes fail", z.place(0, 3), 128);
        for (int time = 1; time <= 190; time++) {
            Check.due("16 pulses for each cell and load", z.wear(3), 128L * 16 * time);
            z.load(0);
        }
    }

    /** "how many, as a float, divided by 128". */
    private static void promise32FromNoneToAll() {
        Crossbarry x = new Crossbarry();
        Check.due("none", x.share(2), 0f);
        for (int many = 1; many <= 128; many++) {
            int at = 128 - many;
            x.stick(2, at / 16, at % 16, 0);
            Check.due(many + " of 128", x.share(2), many / 128f);
        }
        Check.due("all", x.share(2), 1f);
        Check.due("none of another tile", x.share(1), 0f);
        Crossbarry y = new Crossbarry();
        y.layer(1, 1);
        y.weight(0, 0, 0, 0x31);
        y.endurance(3);
        y.place(0, 0);
        Check.due("one by wear", y.share(0), 1 / 128f);
    }

    /** "Returns the hour." */
    private static void promise33TheHour() {
        Crossbarry x = new Crossbarry();
        Check.due("at first", x.hour(), 0);
        for (int time = 1; time <= 100; time++) {
            Check.due("then", x.pass(10000), 10000 * time);
            Check.due("now", x.hour(), 10000 * time);
        }
        Check.state("no further", () -> x.pass(1));
        Check.due("the last one", x.hour(), 1000000);
    }
}
