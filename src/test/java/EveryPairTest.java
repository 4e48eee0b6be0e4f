/**
 * Every chain and side of a ship at anchor, in every cell where a wind lets it lie, by every wind alone and by
 * several, with every chain and side of a ship that waits: where that one has a place, and how the first one
 * lies, told cell by cell from the document. Depths and draughts are all the same here.
 */
public final class EveryPairTest extends Sheet {
    private static final int EDGE = 7, DEPTH = 5;
    private static final int[] OFF_X = {0, 1, 1, 1, 0, -1, -1, -1};
    private static final int[] OFF_Y = {1, 1, 0, -1, -1, -1, 0, 1};
    private static final int[] SETS = {1, 2, 4, 8, 16, 32, 64, 128, 3, 17, 85, 170, 255};

    private record Ship(int chain, int side, int atX, int atY) {
        boolean liesOn(int wind, int cx, int cy) {
            int fromX = atX + chain * OFF_X[wind];
            int fromY = atY + chain * OFF_Y[wind];
            return cx >= fromX && cx < fromX + side && cy >= fromY && cy < fromY + side;
        }

        boolean sweeps(int winds, int cx, int cy) {
            for (int wind = 0; wind < 8; wind++) {
                if ((winds >> wind & 1) == 1 && liesOn(wind, cx, cy)) {
                    return true;
                }
            }
            return false;
        }

        // Ships reach 3 cells beyond the harbour at the most.
        boolean mayLie(int winds) {
            for (int cy = -3; cy < EDGE + 3; cy++) {
                for (int cx = -3; cx < EDGE + 3; cx++) {
                    boolean out = cx < 0 || cy < 0 || cx >= EDGE || cy >= EDGE;
                    if (out && sweeps(winds, cx, cy)) {
                        return false;
                    }
                }
            }
            return true;
        }

        boolean clashes(Ship other, int winds) {
            for (int wind = 0; wind < 8; wind++) {
                if ((winds >> wind & 1) == 1 && meets(other, wind)) {
                    return true;
                }
            }
            return false;
        }

        private boolean meets(Ship other, int wind) {
            for (int cy = -3; cy < EDGE + 3; cy++) {
                for (int cx = -3; cx < EDGE + 3; cx++) {
                    if (liesOn(wind, cx, cy) && other.liesOn(wind, cx, cy)) {
                        return true;
                    }
                }
            }
            return false;
        }
    }

    private int pairs = 0;

    public static void main(String[] args) {
        EveryPairTest test = new EveryPairTest();
        for (int kind = 0; kind < 6; kind++) {
            for (int cell = 0; cell < EDGE * EDGE; cell++) {
                test.everySet(new Ship(kind / 2, kind % 2 + 1, cell % EDGE, cell / EDGE));
            }
        }
        // Each of 6 kinds lies well in each of 49 cells by some wind, but for side 2 on no chain: in 36.
        test.due("pairs looked at", test.pairs, (5 * 49 + 36) * SETS.length * 6);
        test.end();
    }

    private void everySet(Ship first) {
        int wind = 0;
        while (wind < 8 && !first.mayLie(1 << wind)) {
            wind++;
        }
        if (wind == 8) {
            return;
        }
        for (int set : SETS) {
            layByWind(first, wind, set);
            lookAtFirst(first, set);
            for (int kind = 0; kind < 6; kind++) {
                layByWind(first, wind, set);
                lookAtPlaces(first, kind / 2, kind % 2 + 1, set);
                pairs++;
            }
        }
    }

    /** A new object with the ship in its cell, laid there by a wind that lets it, and other winds foreseen then. */
    private void layByWind(Ship first, int wind, int set) {
        start(first + " by the winds of " + set, EDGE, EDGE);
        x.winds(1 << wind);
        lay(DEPTH, first.chain, first.side, first.atX, first.atY);
        x.winds(set);
    }

    private void lookAtFirst(Ship first, int set) {
        int swept = 0;
        for (int cell = 0; cell < EDGE * EDGE; cell++) {
            boolean sweeps = first.sweeps(set, cell % EDGE, cell / EDGE);
            due("sweeps " + cell, x.cell(cell % EDGE, cell / EDGE, 2), sweeps ? 1 : 0);
            swept += sweeps ? 1 : 0;
            for (int wind = 0; wind < 8; wind++) {
                due("lies by " + wind + " on " + cell, x.lies(0, wind, cell % EDGE, cell / EDGE),
                    first.liesOn(wind, cell % EDGE, cell / EDGE) ? 1 : 0);
            }
        }
        boolean well = first.mayLie(set);
        due("ship(0, 4)", x.ship(0, 4), swept);
        due("ship(0, 6)", x.ship(0, 6), well ? 1 : 0);
        due("ship(0, 7)", x.ship(0, 7), well ? 100 : 100 - DEPTH);
        due("told(6)", x.told(6), well ? 0 : 1);
    }

    private void lookAtPlaces(Ship first, int chain, int side, int set) {
        due("arrive", x.arrive(DEPTH, chain, side), 0);
        int count = 0;
        int least = NONE;
        for (int cell = EDGE * EDGE - 1; cell >= 0; cell--) {
            Ship second = new Ship(chain, side, cell % EDGE, cell / EDGE);
            boolean place = second.mayLie(set) && !second.clashes(first, set);
            due(second + " has a place", x.cell(cell % EDGE, cell / EDGE, 3), place ? 1 : 0);
            count += place ? 1 : 0;
            least = place ? cell : least;
        }
        due("waits(0, 3)", x.waits(0, 3), count);
        due("waits(0, 4)", x.waits(0, 4), least);
    }
}
