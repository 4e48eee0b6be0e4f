/** The sentences of 'Terms' and of its section 1 that name a boundary, each by a run of its own. */
public final class TermsTest extends Sheet {
    public static void main(String[] args) {
        TermsTest t = new TermsTest();
        t.numbersFrom0();
        t.sets();
        t.refusalsAreFarBelow();
        t.unknownAheadOfOutside();
        t.unknownAheadOfNotAndFull();
        t.outsideAheadOfNotAndFull();
        t.notAheadOfFull();
        t.sizes();
        t.cellNumbers();
        t.depths();
        t.tides();
        t.water();
        t.windsLieOff();
        t.foreseenAtFirst();
        t.shipBounds();
        t.sidesRise();
        t.sweepsByForeseen();
        t.sweepsEachOnce();
        t.mayLieInTheHarbour();
        t.mayLieByOneWind();
        t.mayLieByWater();
        t.clashByTheSameWind();
        t.clashSideBySide();
        t.clashFarOff();
        t.clashOutside();
        t.noClashAroundTheEdge();
        t.mostShips();
        t.oneNumberLess();
        t.oneThatHasGone();
        t.inDanger();
        t.end();
    }

    private void numbersFrom0() {
        start("What has a number has it from 0 on.");
        due("the first that WAITS", x.arrive(1, 0, 1), 0);
        due("the first CELL is a PLACE", x.waits(0, 4), 0);
        due("the first at ANCHOR", x.anchor(0, 0, 0), 0);
        due("its CELL", x.ship(0, 3), 0);
        due("WIND 0", x.lies(0, 0, 0, 0), 1);
        x.write(0, 9);
        due("the first entry", x.told(12), 0);
        x.arrive(1, 0, 1);
        due("no CELL -1 by x", x.cell(-1, 0, 0), UNKNOWN);
        due("no CELL -1 by y", x.cell(0, -1, 0), UNKNOWN);
        due("no SHIP -1", x.ship(-1, 0), UNKNOWN);
        due("none that WAITS is -1", x.waits(-1, 0), UNKNOWN);
        due("no WIND -1", x.lies(0, -1, 0, 0), OUTSIDE);
        due("no IMAGE -1", x.keep(-1), UNKNOWN);
        due("IMAGE 0", x.keep(0), 1);
    }

    private void sets() {
        start("A SET is a whole number, bit k for k.", 7, 7);
        layRow(5, 0, 0);
        x.depth(4, 0, 0);
        due("SHIP 4", x.told(6), 16);
        x.depth(0, 0, 0);
        due("SHIPS 0, 4", x.told(6), 17);
        due("SHIP 4 SWEEPS", x.cell(4, 0, 2), 16);
        x.arrive(9, 0, 1);
        x.arrive(9, 0, 1);
        x.arrive(1, 0, 1);
        due("2 of those that WAIT", x.cell(6, 6, 3), 4);
        x.harbour(6, 6);
        x.winds(128);
        lay(1, 1, 1, 3, 3);
        due("WIND 7 alone: on one CELL", x.ship(0, 4), 1);
        due("WIND 7 alone: on this one", x.cell(2, 4, 2), 1);
    }

    private void refusalsAreFarBelow() {
        start("NONE is -1.");
        due("NONE", NONE, -1);
        goOn("They are far below all that is counted: -1000000001 and on.");
        due("UNKNOWN", UNKNOWN, -1000000001);
        due("OUTSIDE", OUTSIDE, -1000000002);
        due("NOT", NOT, -1000000003);
        due("FULL", FULL, -1000000004);
    }

    /** Five at anchor, three that wait (the first without a place), a full book: all refusals can come up. */
    private void startFull(String text) {
        start(text, 7, 7);
        layRow(5, 0, 0);
        x.arrive(9, 0, 1);
        x.arrive(1, 0, 1);
        x.arrive(1, 0, 1);
        for (int i = 0; i < 20; i++) {
            x.write(0, 0);
        }
    }

    private void unknownAheadOfOutside() {
        startFull("REFUSALS, of several the first in this order: UNKNOWN, OUTSIDE");
        due("cell", x.cell(7, 0, 4), UNKNOWN);
        due("cell", x.cell(0, 7, -1), UNKNOWN);
        due("ship", x.ship(5, 8), UNKNOWN);
        due("ship", x.ship(-1, -1), UNKNOWN);
        due("waits", x.waits(3, 8), UNKNOWN);
        due("waits", x.waits(-1, -1), UNKNOWN);
        due("moves", x.moves(3, 3), UNKNOWN);
        due("moves", x.moves(-1, -1), UNKNOWN);
        due("lies, no SHIP", x.lies(5, 8, 0, 0), UNKNOWN);
        due("lies, no x", x.lies(0, 8, 7, 0), UNKNOWN);
        due("lies, no y", x.lies(0, -1, 0, -1), UNKNOWN);
        due("depth", x.depth(7, 0, 10), UNKNOWN);
        due("depth", x.depth(0, -1, -1), UNKNOWN);
    }

    private void unknownAheadOfNotAndFull() {
        startFull("REFUSALS, of several the first in this order: UNKNOWN, NOT, FULL");
        due("anchor, none WAITS there, no PLACE", x.anchor(3, 0, 0), UNKNOWN);
        due("anchor, no CELL, no PLACE", x.anchor(0, 7, 0), UNKNOWN);
        due("anchor, no CELL, FULL", x.anchor(1, 0, 7), UNKNOWN);
        due("fit, none WAITS there, FULL", x.fit(3), UNKNOWN);
        due("shift, none WAITS there, FULL", x.shift(3), UNKNOWN);
        due("write, no SHIP, FULL", x.write(5, 0), UNKNOWN);
        due("goBack, no IMAGE, not kept", x.goBack(2), UNKNOWN);
    }

    private void outsideAheadOfNotAndFull() {
        start("REFUSALS, of several the first in this order: OUTSIDE, NOT");
        due("undo, too few, not so many", x.undo(0), OUTSIDE);
        due("undo, too many, not so many", x.undo(17), OUTSIDE);
        startFull("REFUSALS, of several the first in this order: OUTSIDE, FULL");
        due("arrive, DRAUGHT", x.arrive(0, 0, 1), OUTSIDE);
        due("arrive, CHAIN", x.arrive(1, 3, 1), OUTSIDE);
        due("arrive, SIDE", x.arrive(1, 0, 3), OUTSIDE);
    }

    private void notAheadOfFull() {
        startFull("REFUSALS, of several the first in this order: NOT, FULL");
        due("anchor", x.anchor(0, 6, 6), NOT);
        due("fit", x.fit(0), NOT);
        due("shift", x.shift(0), NOT);
        due("fitAll", x.fitAll(), NOT);
        x.turnAway(0);
        due("anchor, FULL alone", x.anchor(0, 6, 6), FULL);
        due("fit, FULL alone", x.fit(0), FULL);
        due("shift, FULL alone", x.shift(0), FULL);
        due("fitAll, FULL alone", x.fitAll(), FULL);
    }

    private void sizes() {
        start("W by H CELLS (2 .. 7 each; 6 and 6 at first)");
        due("W", x.told(0), 6);
        due("H", x.told(1), 6);
        hasCells(6, 6);
        for (int w = 2; w <= 7; w++) {
            for (int h = 2; h <= 7; h++) {
                due("W by H", x.harbour(w, h), 0);
                due("W", x.told(0), w);
                due("H", x.told(1), h);
                hasCells(w, h);
            }
        }
    }

    private void hasCells(int w, int h) {
        due("the last CELL", x.cell(w - 1, h - 1, 0), 5);
        due("beyond it by x", x.cell(w, h - 1, 0), UNKNOWN);
        due("beyond it by y", x.cell(w - 1, h, 0), UNKNOWN);
    }

    private void cellNumbers() {
        start("CELL x, y has the number y times W and x", 7, 2);
        lay(1, 0, 1, 6, 1);
        lay(1, 0, 1, 0, 1);
        lay(1, 0, 1, 6, 0);
        due("the last of all", x.ship(0, 3), 13);
        due("the first of the last row", x.ship(1, 3), 7);
        due("the last of the first row", x.ship(2, 3), 6);
        x.harbour(2, 7);
        lay(1, 0, 1, 1, 6);
        lay(1, 0, 1, 0, 6);
        due("the last of all", x.ship(0, 3), 13);
        due("the first of the last row", x.ship(1, 3), 12);
    }

    private void depths() {
        start("a DEPTH (0 .. 9; 5 at first)");
        for (int i = 0; i < 36; i++) {
            due("at first", x.cell(i % 6, i / 6, 0), 5);
        }
        due("least", x.depth(5, 5, 0), 5);
        due("is so", x.cell(5, 5, 0), 0);
        due("most", x.depth(5, 5, 9), 0);
        due("is so", x.cell(5, 5, 0), 9);
        due("too small", x.depth(5, 5, -1), OUTSIDE);
        due("too large", x.depth(5, 5, 10), OUTSIDE);
        due("is so still", x.cell(5, 5, 0), 9);
    }

    private void tides() {
        start("TIDE (-3 .. 3; 0 at first)");
        due("at first", x.told(2), 0);
        due("least", x.tide(-3), 0);
        due("is so", x.told(2), -3);
        due("most", x.tide(3), -3);
        due("is so", x.told(2), 3);
        due("too small", x.tide(-4), OUTSIDE);
        due("too large", x.tide(4), OUTSIDE);
        due("is so still", x.told(2), 3);
    }

    private void water() {
        start("WATER of a CELL is its DEPTH and TIDE, or 0, if that is less than 0.", 7, 2);
        for (int d = 0; d <= 9; d++) {
            x.depth(d % 7, d / 7, d);
        }
        int[][] due = {{0, 0, 0, 0, 1, 2, 3, 4, 5, 6}, {0, 0, 0, 1, 2, 3, 4, 5, 6, 7}, {0, 0, 1, 2, 3, 4, 5, 6, 7, 8},
            {0, 1, 2, 3, 4, 5, 6, 7, 8, 9}, {1, 2, 3, 4, 5, 6, 7, 8, 9, 10}, {2, 3, 4, 5, 6, 7, 8, 9, 10, 11},
            {3, 4, 5, 6, 7, 8, 9, 10, 11, 12}};
        for (int t = -3; t <= 3; t++) {
            x.tide(t);
            for (int d = 0; d <= 9; d++) {
                due("WATER, " + d + " and " + t, x.cell(d % 7, d / 7, 1), due[t + 3][d]);
                due("DEPTH, " + d, x.cell(d % 7, d / 7, 0), d);
            }
        }
    }

    private void windsLieOff() {
        int[][] off = {{0, 1}, {1, 1}, {1, 0}, {1, -1}, {0, -1}, {-1, -1}, {-1, 0}, {-1, 1}};
        for (int chain = 0; chain <= 2; chain++) {
            start("WINDS 0 to 7: x, y by which a ship lies off", 7, 7);
            lay(1, chain, 1, 3, 3);
            for (int wind = 0; wind <= 7; wind++) {
                int there = 0;
                for (int i = 0; i < 49; i++) {
                    there += x.lies(0, wind, i % 7, i / 7);
                }
                due("on one CELL by " + wind, there, 1);
                due("off by " + wind, x.lies(0, wind, 3 + chain * off[wind][0], 3 + chain * off[wind][1]), 1);
            }
            due("no WIND 8", x.lies(0, 8, 3, 3), OUTSIDE);
            due("no WIND -1", x.lies(0, -1, 3, 3), OUTSIDE);
        }
    }

    private void foreseenAtFirst() {
        start("FORESEEN: a SET of WINDS (255 at first: all).");
        due("at first", x.told(3), 255);
        lay(1, 1, 1, 1, 1);
        due("by all WINDS", x.ship(0, 4), 8);
        due("none is left that would be a THREAT", x.told(9), 0);
    }

    private void shipBounds() {
        start("A SHIP: DRAUGHT (1 .. 9), CHAIN (0 .. 2), SIDE (1, 2).");
        due("least", x.arrive(1, 0, 1), 0);
        due("most", x.arrive(9, 2, 2), 1);
        int[] bounds = {1, 0, 1, 9, 2, 2};
        for (int i = 0; i < 6; i++) {
            due("what came", x.waits(i / 3, i % 3), bounds[i]);
        }
        int[][] bad = {{0, 0, 1}, {10, 0, 1}, {1, -1, 1}, {1, 3, 1}, {1, 0, 0}, {1, 0, 3}};
        for (int[] b : bad) {
            due("arrive(" + b[0] + ", " + b[1] + ", " + b[2] + ")", x.arrive(b[0], b[1], b[2]), OUTSIDE);
        }
        due("none of these WAITS", x.told(5), 2);
    }

    private void sidesRise() {
        start("it lies by a WIND on the SIDE times SIDE CELLS from x and CHAIN times x of the WIND on, y likewise, rising.");
        lay(1, 1, 2, 2, 2);
        int[] first = {20, 21, 15, 9, 8, 7, 13, 19};
        for (int wind = 0; wind < 8; wind++) {
            for (int i = 0; i < 36; i++) {
                int from = i - first[wind];
                int want = from == 0 || from == 1 || from == 6 || from == 7 ? 1 : 0;
                due("by " + wind + " on " + i, x.lies(0, wind, i % 6, i / 6), want);
            }
        }
    }

    private void sweepsByForeseen() {
        start("It SWEEPS all CELLS on which it lies by WINDS FORESEEN.");
        x.winds(1);
        lay(1, 1, 1, 2, 2);
        due("one WIND", x.ship(0, 4), 1);
        due("that CELL", x.cell(2, 3, 2), 1);
        due("by another WIND", x.cell(3, 2, 2), 0);
        due("the CELL of the ANCHOR", x.cell(2, 2, 2), 0);
        x.winds(1 | 4);
        due("two WINDS", x.ship(0, 4), 2);
        due("the CELL of WIND 2", x.cell(3, 2, 2), 1);
        due("lies there, but it is not FORESEEN", x.lies(0, 4, 2, 1), 1);
        due("not SWEPT", x.cell(2, 1, 2), 0);
    }

    private void sweepsEachOnce() {
        int[][] shapes = {{0, 1, 1}, {0, 2, 4}, {1, 1, 8}, {1, 2, 16}, {2, 1, 8}, {2, 2, 32}};
        for (int[] s : shapes) {
            start("10 CELLS that SHIPS at ANCHOR SWEEP (how many, each once)", 7, 7);
            lay(1, s[0], s[1], 2, 2);
            due("CHAIN " + s[0] + ", SIDE " + s[1], x.ship(0, 4), s[2]);
            due("of one SHIP", x.told(10), s[2]);
        }
        start("10 CELLS that SHIPS at ANCHOR SWEEP (how many, each once)", 7, 7);
        due("no SHIP", x.told(10), 0);
        lay(1, 1, 1, 1, 1);
        lay(1, 1, 1, 1, 3);
        due("three CELLS by both", x.told(10), 13);
        x.winds(16);
        x.harbour(6, 6);
        lay(1, 2, 1, 0, 5);
        x.winds(1 | 16);
        due("not those out of THE HARBOUR", x.told(10), 1);
        due("of THE HARBOUR", x.ship(0, 4), 1);
    }

    private void mayLieInTheHarbour() {
        // How many cells are left for chain and side in 7 by 7 and in 2 by 2, and the first of them.
        int[][] all = {{0, 1, 49, 0}, {0, 2, 36, 0}, {1, 1, 25, 8}, {1, 2, 16, 8}, {2, 1, 9, 16}, {2, 2, 4, 16}};
        int[][] least = {{0, 1, 4, 0}, {0, 2, 1, 0}, {1, 1, 0, NONE}, {1, 2, 0, NONE}, {2, 1, 0, NONE}, {2, 2, 0, NONE}};
        mayLieIn(7, all);
        mayLieIn(2, least);
    }

    /** Chain 2, side 2 in 7 by 7: as many columns and rows are left by one wind. */
    private void mayLieByOneWind() {
        start("It MAY LIE there, if all these are CELLS of THE HARBOUR", 7, 7);
        int[] columns = {6, 4, 4, 4, 6, 5, 5, 5};
        int[] rows = {4, 4, 6, 5, 5, 5, 6, 4};
        int[] first = {0, 0, 0, 14, 14, 16, 2, 2};
        x.arrive(1, 2, 2);
        for (int wind = 0; wind < 8; wind++) {
            x.winds(1 << wind);
            due("places by WIND " + wind, x.waits(0, 3), columns[wind] * rows[wind]);
            due("the first by WIND " + wind, x.waits(0, 4), first[wind]);
        }
    }

    private void mayLieIn(int edge, int[][] shapes) {
        for (int[] s : shapes) {
            start("It MAY LIE there, if all these are CELLS of THE HARBOUR", edge, edge);
            x.arrive(1, s[0], s[1]);
            due("places, CHAIN " + s[0] + ", SIDE " + s[1], x.waits(0, 3), s[2]);
            due("the first, CHAIN " + s[0] + ", SIDE " + s[1], x.waits(0, 4), s[3]);
        }
    }

    private void mayLieByWater() {
        start("whose WATER is its DRAUGHT at least", 2, 2);
        x.arrive(5, 0, 1);
        due("just as deep", x.waits(0, 3), 4);
        x.tide(-1);
        due("one less", x.waits(0, 3), 0);
        x.depth(1, 1, 6);
        due("one CELL, just as deep", x.waits(0, 4), 3);
        x.turnAway(0);
        x.harbour(3, 3);
        x.tide(0);
        x.depth(1, 1, 0);
        x.arrive(5, 1, 1);
        due("the CELL of the ANCHOR is not one of these", x.waits(0, 4), 4);
        for (int i = 0; i < 9; i++) {
            x.depth(i % 3, i / 3, 4);
            due("a shoal in " + i, x.waits(0, 3), i == 4 ? 1 : 0);
            x.undo(1);
        }
        x.turnAway(0);
        x.depth(1, 1, 9);
        x.tide(3);
        x.arrive(9, 0, 1);
        due("9 in 12", x.waits(0, 4), 4);
        due("9 not in 8", x.waits(0, 3), 1);
        x.tide(-3);
        x.depth(0, 0, 3);
        x.arrive(1, 0, 1);
        x.turnAway(0);
        due("1 not in 0", x.cell(0, 0, 3), 0);
        due("1 in 2", x.cell(1, 0, 3), 1);
    }

    private void clashByTheSameWind() {
        start("Two SHIPS CLASH, if by a WIND FORESEEN there is a CELL on which both lie");
        lay(1, 1, 1, 1, 1);
        lay(1, 1, 1, 1, 3);
        due("both SWEEP it", x.cell(1, 2, 2), 3);
        due("by other WINDS: no pair", x.told(7), 0);
        start("Two SHIPS CLASH, if by a WIND FORESEEN there is a CELL on which both lie");
        x.winds(1);
        lay(1, 1, 1, 2, 2);
        lay(1, 2, 1, 2, 2);
        due("one CELL for both ANCHORS: no pair", x.told(7), 0);
        lay(1, 0, 1, 2, 2);
        x.winds(1 | 4);
        due("by WINDS 0 and 2", x.told(7), 0);
        x.harbour(6, 6);
        x.winds(1);
        lay(1, 1, 1, 2, 2);
        lay(1, 0, 1, 2, 1);
        due("by WIND 4, not FORESEEN", x.told(7), 0);
        x.winds(16);
        due("FORESEEN", x.told(7), 1);
        due("with 1", x.ship(0, 5), 2);
        due("with 0", x.ship(1, 5), 1);
    }

    private void clashSideBySide() {
        start("Two SHIPS CLASH: side by side they do not", 5, 5);
        lay(1, 0, 2, 1, 1);
        x.arrive(1, 0, 1);
        for (int i = 0; i < 25; i++) {
            boolean on = i == 6 || i == 7 || i == 11 || i == 12;
            due("SIDE 1 at " + i, x.cell(i % 5, i / 5, 3), on ? 0 : 1);
        }
        x.turnAway(0);
        x.arrive(1, 0, 2);
        due("SIDE 2, left of it", x.cell(0, 1, 3), 0);
        due("SIDE 2, right of it", x.cell(3, 1, 3), 1);
        due("SIDE 2, one nearer", x.cell(2, 1, 3), 0);
        due("SIDE 2, below it", x.cell(1, 3, 3), 1);
        due("SIDE 2, a corner", x.cell(2, 2, 3), 0);
        due("SIDE 2, beyond the corner", x.cell(3, 3, 3), 1);
    }

    /** Chains 0 and 2, sides 2: the one lies at 3, 3 by each wind, however far off its anchor is. */
    private void clashFarOff() {
        int[][] off = {{0, 2}, {2, 2}, {2, 0}, {2, -2}, {0, -2}, {-2, -2}, {-2, 0}, {-2, 2}};
        for (int wind = 0; wind < 8; wind++) {
            start("Two SHIPS CLASH, if by a WIND FORESEEN there is a CELL on which both lie: CHAINS 2 and 0", 7, 7);
            x.winds(1 << wind);
            lay(1, 2, 2, 3 - off[wind][0], 3 - off[wind][1]);
            x.arrive(1, 0, 2);
            for (int i = 0; i < 49; i++) {
                due("by WIND " + wind + " at " + i, x.cell(i % 7, i / 7, 3), isFree(i % 7, i / 7));
            }
            start("Two SHIPS CLASH, if by a WIND FORESEEN there is a CELL on which both lie: CHAINS 0 and 2", 7, 7);
            x.winds(1 << wind);
            lay(1, 0, 2, 3, 3);
            x.arrive(1, 2, 2);
            for (int i = 0; i < 49; i++) {
                int due = isFree(i % 7 + off[wind][0], i / 7 + off[wind][1]);
                due("by WIND " + wind + " at " + i, x.cell(i % 7, i / 7, 3), due);
            }
        }
    }

    /** In 7 by 7 a ship of side 2 is off the edges, and off another one of side 2 at 3, 3. */
    private static int isFree(int atX, int atY) {
        boolean within = atX >= 0 && atX <= 5 && atY >= 0 && atY <= 5;
        boolean upon = atX >= 2 && atX <= 4 && atY >= 2 && atY <= 4;
        return within && !upon ? 1 : 0;
    }

    /** By a wind towards an edge a ship of chain 1 and one of chain 2 come to lie on the same cell beyond it. */
    private void clashOutside() {
        int[][] near = {{2, 5}, {5, 5}, {5, 2}, {5, 0}, {2, 0}, {0, 0}, {0, 2}, {0, 5}};
        int[][] far = {{2, 4}, {4, 4}, {4, 2}, {4, 1}, {2, 1}, {1, 1}, {1, 2}, {1, 4}};
        for (int wind = 0; wind < 8; wind++) {
            start("Two SHIPS CLASH (be it out of THE HARBOUR)");
            x.winds(1 << (wind + 4) % 8);
            lay(1, 1, 1, near[wind][0], near[wind][1]);
            lay(1, 2, 1, far[wind][0], far[wind][1]);
            due("back to back", x.told(7), 0);
            x.winds(1 << wind);
            due("by WIND " + wind, x.told(7), 1);
            due("they SWEEP no CELL of THE HARBOUR", x.told(10), 0);
            due("both IN DANGER", x.told(6), 3);
        }
    }

    private void noClashAroundTheEdge() {
        start("CELL x, y beyond an edge is not one of the next row");
        x.winds(64);
        lay(1, 1, 1, 5, 0);
        lay(1, 0, 1, 0, 1);
        x.winds(4);
        due("no pair", x.told(7), 0);
        due("not SWEPT by it", x.cell(0, 1, 2), 2);
        due("it SWEEPS none", x.ship(0, 4), 0);
        due("IN DANGER", x.told(6), 1);
        start("CELL x, y ahead of an edge is not one of the row ahead");
        x.winds(4);
        lay(1, 1, 1, 0, 1);
        lay(1, 0, 1, 5, 0);
        x.winds(64);
        due("no pair", x.told(7), 0);
        due("not SWEPT by it", x.cell(5, 0, 2), 2);
        due("IN DANGER", x.told(6), 1);
        start("PLACES do not reach around the edges", 7, 7);
        lay(1, 0, 1, 0, 3);
        x.arrive(1, 0, 2);
        due("at the other edge", x.cell(5, 2, 3), 1);
        due("at the other edge", x.cell(5, 3, 3), 1);
        due("beside it", x.cell(0, 2, 3), 0);
        due("out of THE HARBOUR", x.cell(6, 2, 3), 0);
        start("PLACES do not reach around the edges", 7, 7);
        lay(1, 0, 2, 5, 3);
        x.arrive(1, 0, 1);
        due("at the other edge", x.cell(0, 4, 3), 1);
        due("at the other edge", x.cell(0, 3, 3), 1);
        due("on it", x.cell(6, 4, 3), 0);
    }

    private void mostShips() {
        start("SHIPS at ANCHOR (5 at most), SHIPS that WAIT (3 at most)");
        layRow(5, 0, 0);
        due("5 at ANCHOR", x.told(4), 5);
        for (int i = 0; i < 3; i++) {
            due("it WAITS", x.arrive(1, 0, 1), i);
        }
        due("a 4th WAITS not", x.arrive(1, 0, 1), FULL);
        due("3 WAIT", x.told(5), 3);
        due("a 6th anchors not", x.anchor(0, 0, 1), FULL);
        due("5 at ANCHOR", x.told(4), 5);
        x.leave(4);
        due("room again", x.anchor(0, 0, 1), 4);
        due("room again", x.arrive(1, 0, 1), 2);
    }

    private void oneNumberLess() {
        start("each numbered as they came; if one goes, later ones have one number less.");
        for (int i = 0; i < 5; i++) {
            lay(i + 1, 0, 1, i, i);
        }
        x.leave(0);
        draughts(2, 3, 4, 5);
        for (int a = 0; a < 4; a++) {
            due("the ANCHOR of " + a, x.ship(a, 3), 7 * (a + 1));
        }
        x.leave(3);
        draughts(2, 3, 4);
        x.leave(1);
        draughts(2, 4);
        lay(1, 0, 1, 0, 5);
        draughts(2, 4, 1);
        due("its ANCHOR comes along", x.ship(1, 3), 21);
        for (int k = 0; k < 3; k++) {
            x.arrive(k + 2, k, 1);
        }
        x.turnAway(0);
        due("one that WAITS", x.waits(0, 0) * 10 + x.waits(1, 0), 34);
        due("none is behind", x.waits(2, 0), UNKNOWN);
        x.arrive(5, 0, 2);
        x.anchor(1, 2, 2);
        due("one that has come to ANCHOR", x.waits(0, 0) * 10 + x.waits(1, 0), 35);
        due("its SIDE comes along", x.waits(1, 2), 2);
        draughts(2, 4, 1, 4);
    }

    private void oneThatHasGone() {
        start("if one goes: nothing of it is left", 7, 7);
        x.winds(1);
        lay(1, 0, 1, 3, 3);
        lay(1, 0, 1, 4, 4);
        lay(1, 0, 1, 2, 4);
        lay(1, 2, 2, 0, 0);
        lay(1, 1, 1, 3, 4);
        x.arrive(1, 0, 2);
        x.winds(1 | 4 | 16 | 64);
        due("4 CLASHES with three", x.told(7), 3);
        due("these, and 3 beyond the edges", x.told(6), 31);
        due("4 SWEEPS it", x.cell(3, 5, 2), 16);
        due("no PLACE", x.cell(3, 5, 3), 0);
        due("CELLS, SWEPT", x.told(10), 12);
        x.leave(4);
        due("no CLASH any more", x.told(7), 0);
        due("3 IN DANGER", x.told(6), 8);
        due("not SWEPT any more", x.cell(3, 5, 2), 0);
        due("a PLACE again", x.cell(3, 5, 3), 1);
        due("one CELL less", x.told(10), 11);
        due("3 SWEEPS it", x.cell(1, 2, 2), 8);
        due("no PLACE", x.cell(0, 2, 3), 0);
        x.leave(3);
        due("none IN DANGER", x.told(6), 0);
        due("not SWEPT any more", x.cell(1, 2, 2), 0);
        due("a PLACE again", x.cell(0, 2, 3), 1);
        due("eight CELLS less", x.told(10), 3);
        x.turnAway(0);
        due("none WAITS for a PLACE", x.cell(0, 2, 3), 0);
        due("PLACES for ALL", x.told(8), 1);
    }

    private void draughts(int... due) {
        due("how many", x.told(4), due.length);
        for (int a = 0; a < due.length; a++) {
            due("DRAUGHT of " + a, x.ship(a, 0), due[a]);
        }
        due("none is behind", x.ship(due.length, 0), UNKNOWN);
    }

    private void inDanger() {
        start("IN DANGER: SHIPS at ANCHOR that MAY NOT LIE where they do, or CLASH with another one.");
        due("no SHIP", x.told(6), 0);
        x.winds(1);
        lay(5, 0, 1, 0, 0);
        lay(5, 1, 1, 1, 0);
        lay(1, 0, 1, 1, 3);
        lay(1, 2, 1, 4, 0);
        due("none", x.told(6), 0);
        x.tide(-1);
        due("two are too deep", x.told(6), 3);
        x.tide(0);
        x.winds(1 | 64);
        due("one has come upon another", x.told(6), 3);
        due("they lie well", x.ship(0, 6) + x.ship(1, 6), 2);
        x.winds(1 | 8);
        due("two out of THE HARBOUR", x.told(6), 10);
        x.arrive(9, 0, 1);
        due("none that WAITS", x.told(6), 10);
    }
}
