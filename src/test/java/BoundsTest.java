/** The promises 1 to 25: each of their sentences that names a boundary, by a run of its own. */
public final class BoundsTest extends Sheet {
    /** Numbers far out of all bounds; some of them are within once they are cut to fewer bits. */
    private static final int[] FAR = {MIN, MIN + 1, -65536, -256, 256, 65536, 1 << 30, MAX - 1, MAX};

    public static void main(String[] args) {
        BoundsTest t = new BoundsTest();
        t.lastCalls();
        t.newObject();
        t.told();
        t.toldMostPairs();
        t.cell();
        t.cellSets();
        t.ship();
        t.shipLeastAndMostWater();
        t.waits();
        t.waitsNone();
        t.moves();
        t.movesNotSoMany();
        t.lies();
        t.liesForeseenOrNot();
        t.harbour();
        t.harbourHowManyWere();
        t.harbourOldCells();
        t.depth();
        t.tide();
        t.winds();
        t.arrive();
        t.arriveFull();
        t.anchor();
        t.anchorNoPlace();
        t.anchorFull();
        t.fit();
        t.fitFull();
        t.fitAllNot();
        t.fitAllFull();
        t.shift();
        t.shiftFull();
        t.leave();
        t.turnAway();
        t.drift();
        t.driftInDanger();
        t.undo();
        t.undoNotSoMany();
        t.write();
        t.tear();
        t.seed();
        t.keep();
        t.goBack();
        t.end();
    }

    private void lastCalls() {
        start("An object is used for at most 512 calls after it has been made");
        for (int i = 1; i <= 500; i++) {
            due("call " + i, x.depth(2, 2, i % 10), i == 1 ? 5 : (i - 1) % 10);
        }
        due("call 501", x.arrive(1, 2, 2), 0);
        due("call 502", x.fit(0), 14);
        due("call 503", x.write(0, 14), 1);
        due("call 504", x.told(12), NONE);
        due("call 505", x.told(13), 16);
        due("call 506", x.undo(16), 0);
        due("call 507", x.cell(2, 2, 0), 6);
        due("call 508", x.undo(1), NOT);
        due("call 509", x.keep(1), 1);
        due("call 510", x.harbour(7, 7), 0);
        due("call 511", x.goBack(1), 1);
        due("call 512", x.told(12), 0);
    }

    private void newObject() {
        start("No SHIPS.");
        due("at ANCHOR", x.told(4), 0);
        due("that WAIT", x.told(5), 0);
        for (int what = 0; what < 8; what++) {
            due("no SHIP 0", x.ship(0, what), UNKNOWN);
            due("none that WAITS is 0", x.waits(0, what), UNKNOWN);
        }
        due("moves", x.moves(0, 0), UNKNOWN);
        due("lies", x.lies(0, 0, 0, 0), UNKNOWN);
        due("anchor", x.anchor(0, 0, 0), UNKNOWN);
        due("fit", x.fit(0), UNKNOWN);
        due("shift", x.shift(0), UNKNOWN);
        due("leave", x.leave(0), UNKNOWN);
        due("turnAway", x.turnAway(0), UNKNOWN);
        due("write", x.write(0, 0), UNKNOWN);
        due("two objects have nothing in common", new SwungShips().arrive(1, 0, 1), 0);
        due("that WAIT", x.told(5), 0);
    }

    private void told() {
        start("told: 0 W .. 14 THE SEED. OUTSIDE.");
        int[] first = {6, 6, 0, 255, 0, 0, 0, 0, 1, 0, 0, 0, NONE, 0, 0};
        for (int what = 0; what < first.length; what++) {
            due("told(" + what + ")", x.told(what), first[what]);
        }
        due("-1", x.told(-1), OUTSIDE);
        due("15", x.told(15), OUTSIDE);
        for (int v : FAR) {
            due("" + v, x.told(v), OUTSIDE);
        }
    }

    /** Chains 0, 0, 1, 1, 2: by wind 2 all but those of one chain lie upon one another. */
    private void toldMostPairs() {
        start("7 pairs that CLASH");
        due("no SHIP", x.told(7), 0);
        lay(1, 0, 2, 2, 2);
        due("one SHIP", x.told(7), 0);
        lay(1, 0, 2, 4, 2);
        x.winds(16);
        lay(1, 2, 2, 1, 2);
        x.winds(32);
        lay(1, 1, 2, 2, 1);
        x.winds(128);
        lay(1, 1, 2, 2, 3);
        x.winds(4);
        due("each pair once", x.told(7), 8);
        due("all IN DANGER", x.told(6), 31);
        int[] with = {28, 28, 27, 7, 7};
        for (int a = 0; a < 5; a++) {
            due("with which, " + a, x.ship(a, 5), with[a]);
            due("it MAY LIE there, " + a, x.ship(a, 6), 1);
        }
    }

    private void cell() {
        start("cell: what = 0 DEPTH .. 3 SHIPS that WAIT. UNKNOWN, OUTSIDE.", 7, 3);
        for (int what = 0; what < 4; what++) {
            due("the first", x.cell(0, 0, what), what < 2 ? 5 : 0);
            due("the last", x.cell(6, 2, what), what < 2 ? 5 : 0);
            due("x -1", x.cell(-1, 0, what), UNKNOWN);
            due("x 7", x.cell(7, 0, what), UNKNOWN);
            due("y -1", x.cell(0, -1, what), UNKNOWN);
            due("y 3", x.cell(0, 3, what), UNKNOWN);
        }
        due("what -1", x.cell(0, 0, -1), OUTSIDE);
        due("what 4", x.cell(0, 0, 4), OUTSIDE);
        for (int v : FAR) {
            due("x " + v, x.cell(v, 0, 0), UNKNOWN);
            due("y " + v, x.cell(0, v, 0), UNKNOWN);
            due("what " + v, x.cell(0, 0, v), OUTSIDE);
        }
    }

    private void cellSets() {
        start("2 SHIPS at ANCHOR that SWEEP it (a SET), 3 SHIPS that WAIT for which it is a PLACE (a SET)", 7, 7);
        due("no SHIP", x.cell(3, 3, 2), 0);
        due("none WAITS", x.cell(3, 3, 3), 0);
        // Five lie around one cell, each on it by another wind.
        lay(1, 1, 1, 3, 2);
        lay(1, 1, 1, 2, 3);
        lay(1, 1, 1, 4, 3);
        lay(1, 1, 1, 3, 4);
        lay(1, 1, 1, 2, 2);
        due("all five", x.cell(3, 3, 2), 31);
        due("none CLASH", x.told(7), 0);
        x.winds(1);
        due("by WIND 0 one of them", x.cell(3, 3, 2), 1);
        for (int k = 0; k < 3; k++) {
            x.arrive(5, 0, 1);
        }
        due("all three", x.cell(6, 6, 3), 7);
        due("a SHIP lies there", x.cell(3, 3, 3), 0);
    }

    private void ship() {
        start("ship: what = 0 DRAUGHT .. 7 the least WATER. UNKNOWN, OUTSIDE.");
        due("none", x.ship(0, 0), UNKNOWN);
        layRow(5, 0, 0);
        for (int what = 0; what < 8; what++) {
            due("SHIP -1", x.ship(-1, what), UNKNOWN);
            due("SHIP 5", x.ship(5, what), UNKNOWN);
        }
        due("SHIP 4", x.ship(4, 3), 4);
        due("what -1", x.ship(4, -1), OUTSIDE);
        due("what 8", x.ship(4, 8), OUTSIDE);
        for (int v : FAR) {
            due("SHIP " + v, x.ship(v, 0), UNKNOWN);
            due("what " + v, x.ship(0, v), OUTSIDE);
        }
    }

    private void shipLeastAndMostWater() {
        start("7 the least WATER, by all WINDS FORESEEN, less DRAUGHT, and 100 (a CELL out of THE HARBOUR has 0)");
        x.depth(0, 0, 9);
        x.depth(1, 0, 9);
        x.tide(3);
        lay(1, 0, 1, 0, 0);
        lay(9, 0, 1, 1, 0);
        due("most: 12 less 1", x.ship(0, 7), 111);
        due("12 less 9", x.ship(1, 7), 103);
        x.tide(0);
        due("just enough", x.ship(1, 7), 100);
        due("it MAY LIE there", x.ship(1, 6), 1);
        x.tide(-1);
        due("one less", x.ship(1, 7), 99);
        due("it MAY not LIE there", x.ship(1, 6), 0);
        x.depth(1, 0, 0);
        due("least: 0 less 9", x.ship(1, 7), 91);
        x.leave(0);
        x.winds(1);
        x.depth(5, 1, 9);
        x.tide(3);
        lay(1, 1, 1, 5, 0);
        due("by WIND 0 alone", x.ship(1, 7), 111);
        x.winds(1 | 4);
        due("by WIND 2 out of THE HARBOUR", x.ship(1, 7), 99);
        due("one CELL of THE HARBOUR", x.ship(1, 4), 1);
        x.winds(4);
        due("out of THE HARBOUR alone", x.ship(1, 7), 99);
        due("no CELL of THE HARBOUR", x.ship(1, 4), 0);
    }

    private void waits() {
        start("waits: what = 0 to 2 as ship() .. 7 which. UNKNOWN, OUTSIDE.");
        for (int k = 0; k < 3; k++) {
            due("none that WAITS is " + k, x.waits(k, 0), UNKNOWN);
            x.arrive(k + 1, k, 2);
            due("DRAUGHT", x.waits(k, 0), k + 1);
            due("CHAIN", x.waits(k, 1), k);
            due("SIDE", x.waits(k, 2), 2);
        }
        for (int what = 0; what < 8; what++) {
            due("-1", x.waits(-1, what), UNKNOWN);
            due("3", x.waits(3, what), UNKNOWN);
        }
        due("what -1", x.waits(2, -1), OUTSIDE);
        due("what 8", x.waits(2, 8), OUTSIDE);
        for (int v : FAR) {
            due("" + v, x.waits(v, 0), UNKNOWN);
            due("what " + v, x.waits(0, v), OUTSIDE);
        }
    }

    private void waitsNone() {
        start("3 how many PLACES there are, 4 the first (NONE), 5 its CELL in FIRST (NONE), 6 how many (NONE), 7 which (a SET; NONE)");
        x.arrive(9, 0, 1);
        int[] none = {9, 0, 1, 0, NONE, NONE, NONE, NONE};
        for (int what = 0; what < 8; what++) {
            due("nowhere, " + what, x.waits(0, what), none[what]);
        }
        x.arrive(1, 0, 1);
        int[] one = {1, 0, 1, 36, 0, NONE, 0, 0};
        for (int what = 0; what < 8; what++) {
            due("beside that, " + what, x.waits(1, what), one[what]);
        }
        x.turnAway(0);
        due("alone: its CELL in FIRST", x.waits(0, 5), 0);
    }

    private void moves() {
        start("moves: i 0 its own, 1, 2 those of the SHIPS that are moved. UNKNOWN, OUTSIDE (i 0 .. 2).");
        due("none WAITS", x.moves(0, 0), UNKNOWN);
        for (int k = 0; k < 3; k++) {
            x.arrive(1, 0, 1);
        }
        due("2", x.moves(2, 0), 0);
        due("3", x.moves(3, 0), UNKNOWN);
        due("-1", x.moves(-1, 0), UNKNOWN);
        due("i 2", x.moves(2, 2), NONE);
        due("i 3", x.moves(2, 3), OUTSIDE);
        due("i -1", x.moves(2, -1), OUTSIDE);
        for (int v : FAR) {
            due("" + v, x.moves(v, 0), UNKNOWN);
            due("i " + v, x.moves(0, v), OUTSIDE);
        }
    }

    private void movesNotSoMany() {
        start("NONE: there are no MOVES, they move not so many.", 4, 2);
        x.arrive(9, 0, 1);
        x.arrive(1, 0, 2);
        for (int i = 0; i < 3; i++) {
            due("no MOVES", x.moves(0, i), NONE);
        }
        due("none is moved: its own", x.moves(1, 0), 0);
        due("none is moved: 1", x.moves(1, 1), NONE);
        lay(1, 0, 1, 1, 0);
        lay(1, 0, 1, 2, 1);
        due("one is moved: its own", x.moves(1, 0), 0);
        due("one is moved: 1", x.moves(1, 1), 2);
        due("one is moved: 2", x.moves(1, 2), NONE);
        x.depth(3, 0, 0);
        lay(1, 0, 1, 0, 0);
        due("two are moved (0 and 1): its own", x.moves(1, 0), 1);
        due("two are moved: 1", x.moves(1, 1), 4);
        due("two are moved: 2", x.moves(1, 2), 7);
    }

    private void lies() {
        start("lies: UNKNOWN, OUTSIDE.", 7, 2);
        due("no SHIP", x.lies(0, 0, 0, 0), UNKNOWN);
        layRow(5, 0, 0);
        due("SHIP 4", x.lies(4, 7, 4, 0), 1);
        due("not there", x.lies(4, 7, 3, 0), 0);
        due("SHIP 5", x.lies(5, 0, 0, 0), UNKNOWN);
        due("SHIP -1", x.lies(-1, 0, 0, 0), UNKNOWN);
        due("WIND 8", x.lies(4, 8, 0, 0), OUTSIDE);
        due("WIND -1", x.lies(4, -1, 0, 0), OUTSIDE);
        due("x 6", x.lies(4, 0, 6, 0), 0);
        due("x 7", x.lies(4, 0, 7, 0), UNKNOWN);
        due("x -1", x.lies(4, 0, -1, 0), UNKNOWN);
        due("y 1", x.lies(4, 0, 0, 1), 0);
        due("y 2", x.lies(4, 0, 0, 2), UNKNOWN);
        due("y -1", x.lies(4, 0, 0, -1), UNKNOWN);
        for (int v : FAR) {
            due("SHIP " + v, x.lies(v, 0, 0, 0), UNKNOWN);
            due("WIND " + v, x.lies(0, v, 0, 0), OUTSIDE);
            due("x " + v, x.lies(0, 0, v, 0), UNKNOWN);
            due("y " + v, x.lies(0, 0, 0, v), UNKNOWN);
        }
    }

    private void liesForeseenOrNot() {
        start("1, if SHIP a at ANCHOR lies on CELL x, y by a WIND (FORESEEN or not), 0 if not.");
        x.winds(1);
        lay(1, 1, 1, 0, 0);
        due("FORESEEN", x.lies(0, 0, 0, 1), 1);
        due("not FORESEEN", x.lies(0, 2, 1, 0), 1);
        due("by the other WIND", x.lies(0, 2, 0, 1), 0);
        due("out of THE HARBOUR: a CELL that there is not", x.lies(0, 4, 0, -1), UNKNOWN);
        due("not around the edge", x.lies(0, 6, 5, 0), 0);
    }

    private void harbour() {
        start("THE HARBOUR is W by H, DEPTHS are 5; no SHIPS any more; TIDE, FORESEEN stay. OUTSIDE.");
        x.tide(2);
        x.winds(9);
        x.depth(0, 0, 0);
        x.depth(5, 5, 9);
        x.arrive(1, 0, 1);
        int[][] bad = {{1, 6}, {8, 6}, {6, 1}, {6, 8}, {0, 0}, {-6, -6}, {1, 8}};
        for (int[] b : bad) {
            due("harbour(" + b[0] + ", " + b[1] + ")", x.harbour(b[0], b[1]), OUTSIDE);
        }
        for (int v : FAR) {
            due("w " + v, x.harbour(v, 6), OUTSIDE);
            due("h " + v, x.harbour(6, v), OUTSIDE);
        }
        due("it WAITS still", x.told(5), 1);
        due("none was at ANCHOR", x.harbour(6, 6), 0);
        due("none WAITS any more", x.told(5), 0);
        due("DEPTH of the first", x.cell(0, 0, 0), 5);
        due("DEPTH of the last", x.cell(5, 5, 0), 5);
        due("TIDE", x.told(2), 2);
        due("FORESEEN", x.told(3), 9);
    }

    private void harbourHowManyWere() {
        start("harbour: how many were at ANCHOR.");
        due("none", x.harbour(6, 6), 0);
        layRow(5, 0, 0);
        x.arrive(1, 0, 1);
        due("five, without the one that WAITS", x.harbour(2, 2), 5);
        due("none is left", x.told(4), 0);
        due("none WAITS", x.told(5), 0);
        due("none", x.harbour(7, 7), 0);
    }

    private void harbourOldCells() {
        start("harbour: DEPTHS are 5", 7, 7);
        for (int i = 0; i < 49; i++) {
            x.depth(i % 7, i / 7, 1);
        }
        x.harbour(2, 2);
        x.depth(1, 1, 9);
        x.harbour(7, 7);
        for (int i = 0; i < 49; i++) {
            due("DEPTH of " + i, x.cell(i % 7, i / 7, 0), 5);
        }
        x.undo(2);
        due("undone: DEPTH", x.cell(1, 1, 0), 5);
        x.undo(1);
        due("undone: DEPTH", x.cell(1, 1, 0), 1);
        due("undone: DEPTH of the last", x.cell(6, 6, 0), 1);
    }

    private void depth() {
        start("DEPTH of a CELL: what it was. UNKNOWN, OUTSIDE.", 2, 7);
        due("least", x.depth(1, 6, 0), 5);
        due("most", x.depth(1, 6, 9), 0);
        due("the same", x.depth(1, 6, 9), 9);
        due("v -1", x.depth(1, 6, -1), OUTSIDE);
        due("v 10", x.depth(1, 6, 10), OUTSIDE);
        due("x 2", x.depth(2, 6, 1), UNKNOWN);
        due("x -1", x.depth(-1, 6, 1), UNKNOWN);
        due("y 7", x.depth(1, 7, 1), UNKNOWN);
        due("y -1", x.depth(1, -1, 1), UNKNOWN);
        for (int v : FAR) {
            due("x " + v, x.depth(v, 0, 1), UNKNOWN);
            due("y " + v, x.depth(0, v, 1), UNKNOWN);
            due("v " + v, x.depth(0, 0, v), OUTSIDE);
        }
        for (int i = 0; i < 14; i++) {
            due("DEPTH of " + i, x.cell(i % 2, i / 2, 0), i == 13 ? 9 : 5);
        }
    }

    private void tide() {
        start("TIDE: what it was. OUTSIDE.");
        int was = 0;
        for (int v = -3; v <= 3; v++) {
            due("tide(" + v + ")", x.tide(v), was);
            was = v;
        }
        due("-4", x.tide(-4), OUTSIDE);
        due("4", x.tide(4), OUTSIDE);
        for (int v : FAR) {
            due("" + v, x.tide(v), OUTSIDE);
        }
        due("is so", x.told(2), 3);
    }

    private void winds() {
        start("FORESEEN: what it was. OUTSIDE (1 .. 255).");
        due("least", x.winds(1), 255);
        due("most", x.winds(255), 1);
        due("WIND 7 alone", x.winds(128), 255);
        due("0", x.winds(0), OUTSIDE);
        due("-1", x.winds(-1), OUTSIDE);
        due("256", x.winds(256), OUTSIDE);
        due("257", x.winds(257), OUTSIDE);
        for (int v : FAR) {
            due("" + v, x.winds(v), OUTSIDE);
        }
        due("is so", x.told(3), 128);
    }

    private void arrive() {
        start("A SHIP comes and WAITS: its number there. OUTSIDE");
        int[][] bad = {{0, 0, 1}, {10, 0, 1}, {-1, 0, 1}, {1, -1, 1}, {1, 3, 1}, {1, 0, 0}, {1, 0, 3}, {1, 0, -1}};
        for (int[] b : bad) {
            due("arrive(" + b[0] + ", " + b[1] + ", " + b[2] + ")", x.arrive(b[0], b[1], b[2]), OUTSIDE);
        }
        for (int v : FAR) {
            due("DRAUGHT " + v, x.arrive(v, 0, 1), OUTSIDE);
            due("CHAIN " + v, x.arrive(1, v, 1), OUTSIDE);
            due("SIDE " + v, x.arrive(1, 0, v), OUTSIDE);
        }
        due("none WAITS", x.told(5), 0);
        due("its number", x.arrive(9, 2, 2), 0);
        due("its number", x.arrive(1, 0, 1), 1);
    }

    private void arriveFull() {
        start("arrive: FULL (3).");
        for (int k = 0; k < 3; k++) {
            due("its number", x.arrive(1, 0, 1), k);
        }
        due("a 4th", x.arrive(1, 0, 1), FULL);
        due("3 WAIT", x.told(5), 3);
        x.fit(0);
        due("one has come to ANCHOR", x.arrive(1, 0, 1), 2);
        due("a 4th", x.arrive(9, 2, 2), FULL);
        x.turnAway(1);
        due("one has gone", x.arrive(1, 0, 1), 2);
        x.fitAll();
        due("all are at ANCHOR", x.arrive(1, 0, 1), 0);
    }

    private void anchor() {
        start("SHIP k that WAITS has its ANCHOR in a CELL, behind the others: its number there. UNKNOWN", 7, 2);
        due("none WAITS", x.anchor(0, 0, 0), UNKNOWN);
        x.arrive(1, 0, 1);
        due("1", x.anchor(1, 0, 0), UNKNOWN);
        due("-1", x.anchor(-1, 0, 0), UNKNOWN);
        due("x 7", x.anchor(0, 7, 0), UNKNOWN);
        due("x -1", x.anchor(0, -1, 0), UNKNOWN);
        due("y 2", x.anchor(0, 0, 2), UNKNOWN);
        due("y -1", x.anchor(0, 0, -1), UNKNOWN);
        for (int v : FAR) {
            due("" + v, x.anchor(v, 0, 0), UNKNOWN);
            due("x " + v, x.anchor(0, v, 0), UNKNOWN);
            due("y " + v, x.anchor(0, 0, v), UNKNOWN);
        }
        due("none is at ANCHOR", x.told(4), 0);
        due("the last CELL", x.anchor(0, 6, 1), 0);
        x.arrive(1, 0, 1);
        due("behind it, though its CELL is less", x.anchor(0, 0, 0), 1);
        due("its CELL", x.ship(1, 3), 0);
    }

    private void anchorNoPlace() {
        start("anchor: NOT: that is no PLACE for it", 4, 4);
        x.depth(1, 1, 4);
        lay(1, 0, 1, 3, 3);
        x.arrive(5, 0, 1);
        due("too shallow", x.anchor(0, 1, 1), NOT);
        due("a SHIP is there", x.anchor(0, 3, 3), NOT);
        x.arrive(1, 1, 1);
        due("beyond the edge", x.anchor(1, 0, 1), NOT);
        due("a SHIP is on its way", x.anchor(1, 2, 2), NOT);
        due("1 is at ANCHOR", x.told(4), 1);
        due("2 WAIT", x.told(5), 2);
        due("a PLACE", x.anchor(1, 1, 1), 1);
    }

    private void anchorFull() {
        start("anchor: FULL (5).");
        layRow(4, 0, 0);
        x.arrive(1, 0, 1);
        due("a 5th", x.anchor(0, 4, 0), 4);
        x.arrive(1, 0, 1);
        due("a 6th", x.anchor(0, 5, 0), FULL);
        due("5", x.told(4), 5);
        due("it WAITS still", x.told(5), 1);
        x.leave(2);
        due("one has left", x.anchor(0, 5, 0), 4);
    }

    private void fit() {
        start("SHIP k that WAITS has its ANCHOR in its first PLACE: that CELL. UNKNOWN, NOT: there is none", 2, 2);
        due("none WAITS", x.fit(0), UNKNOWN);
        x.arrive(6, 0, 1);
        due("1", x.fit(1), UNKNOWN);
        due("-1", x.fit(-1), UNKNOWN);
        for (int v : FAR) {
            due("" + v, x.fit(v), UNKNOWN);
        }
        due("too deep", x.fit(0), NOT);
        x.depth(1, 1, 6);
        due("the last CELL alone", x.fit(0), 3);
        due("there", x.ship(0, 3), 3);
        x.arrive(6, 0, 1);
        due("it is taken", x.fit(0), NOT);
        x.arrive(1, 0, 1);
        due("the second that WAITS", x.fit(1), 0);
        due("the first WAITS still", x.waits(0, 0), 6);
    }

    private void fitFull() {
        start("fit: FULL.");
        for (int i = 0; i < 5; i++) {
            x.arrive(1, 0, 1);
            due("its CELL", x.fit(0), i);
        }
        x.arrive(1, 0, 1);
        due("a 6th", x.fit(0), FULL);
        due("it WAITS still", x.told(5), 1);
        x.leave(0);
        due("one has left", x.fit(0), 0);
        due("behind the others", x.ship(4, 3), 0);
    }

    private void fitAllNot() {
        start("fitAll: NOT: there are no PLACES for ALL (none WAITS: too)", 2, 2);
        due("none WAITS", x.fitAll(), NOT);
        x.arrive(1, 0, 2);
        x.arrive(1, 0, 1);
        due("one of two alone", x.fitAll(), NOT);
        due("none is at ANCHOR", x.told(4), 0);
        due("both WAIT", x.told(5), 2);
        x.turnAway(1);
        due("one", x.fitAll(), 1);
        due("none WAITS any more", x.fitAll(), NOT);
    }

    private void fitAllFull() {
        for (int there = 0; there <= 5; there++) {
            for (int more = 1; more <= 3; more++) {
                start("fitAll: how many. FULL: there would be more than 5.");
                layRow(there, 0, 0);
                for (int k = 0; k < more; k++) {
                    x.arrive(1, 0, 1);
                }
                boolean full = there + more > 5;
                due(more + " beside " + there, x.fitAll(), full ? FULL : more);
                due("at ANCHOR", x.told(4), full ? there : there + more);
                due("WAIT", x.told(5), full ? more : 0);
                due("there are PLACES for ALL", x.told(8), 1);
            }
        }
    }

    private void shift() {
        start("MOVES for SHIP k that WAITS are made: how many were moved. UNKNOWN, NOT: there are none", 3, 2);
        due("none WAITS", x.shift(0), UNKNOWN);
        lay(1, 0, 1, 1, 0);
        x.arrive(1, 0, 2);
        due("1", x.shift(1), UNKNOWN);
        due("-1", x.shift(-1), UNKNOWN);
        for (int v : FAR) {
            due("" + v, x.shift(v), UNKNOWN);
        }
        x.depth(2, 0, 0);
        x.depth(2, 1, 0);
        due("no CELL for the other", x.shift(0), NOT);
        due("it is where it was", x.ship(0, 3), 1);
        due("it WAITS still", x.told(5), 1);
        x.undo(1);
        due("one", x.shift(0), 1);
        due("the other", x.ship(0, 3), 5);
        due("behind it", x.ship(1, 3), 0);
        due("none WAITS", x.told(5), 0);
    }

    private void shiftFull() {
        start("shift: it comes to ANCHOR behind the others. FULL.");
        layRow(5, 0, 0);
        x.arrive(1, 0, 1);
        due("none to be moved, but a 6th", x.shift(0), FULL);
        x.leave(4);
        due("a 5th", x.shift(0), 0);
        due("behind the others", x.ship(4, 3), 4);
        due("none WAITS", x.told(5), 0);
    }

    private void leave() {
        start("A SHIP at ANCHOR leaves: how many are left. UNKNOWN.");
        due("none", x.leave(0), UNKNOWN);
        layRow(5, 0, 0);
        due("5", x.leave(5), UNKNOWN);
        due("-1", x.leave(-1), UNKNOWN);
        for (int v : FAR) {
            due("" + v, x.leave(v), UNKNOWN);
        }
        due("all are there", x.told(4), 5);
        due("the last", x.leave(4), 4);
        due("it is no more", x.leave(4), UNKNOWN);
        for (int left = 3; left >= 0; left--) {
            due("the first", x.leave(0), left);
        }
        due("none", x.leave(0), UNKNOWN);
    }

    private void turnAway() {
        start("A SHIP that WAITS goes: how many are left. UNKNOWN.");
        due("none", x.turnAway(0), UNKNOWN);
        for (int k = 0; k < 3; k++) {
            x.arrive(1, 0, 1);
        }
        due("3", x.turnAway(3), UNKNOWN);
        due("-1", x.turnAway(-1), UNKNOWN);
        for (int v : FAR) {
            due("" + v, x.turnAway(v), UNKNOWN);
        }
        due("all WAIT", x.told(5), 3);
        due("the last", x.turnAway(2), 2);
        due("it is no more", x.turnAway(2), UNKNOWN);
        due("the first", x.turnAway(0), 1);
        due("the first", x.turnAway(0), 0);
        due("none", x.turnAway(0), UNKNOWN);
    }

    private void drift() {
        start("n times BY DRAWS (1 .. 12). OUTSIDE.");
        due("0", x.drift(0), OUTSIDE);
        due("-1", x.drift(-1), OUTSIDE);
        due("13", x.drift(13), OUTSIDE);
        for (int v : FAR) {
            due("" + v, x.drift(v), OUTSIDE);
        }
        due("no DRAW", x.told(14), 0);
        due("no deed", x.told(13), 0);
        due("1", x.drift(1), 0);
        due("two DRAWS", x.told(14), 1406932606);
        due("12", x.drift(12), 0);
        due("deeds", x.told(13), 13);
    }

    // Of THE SEED 0 CELL 0 becomes 8, CELL 16 becomes 7, CELL 6 becomes 7, CELL 25 becomes 1.
    private void driftInDanger() {
        start("drift: IN DANGER.");
        lay(2, 0, 1, 5, 5);
        lay(2, 0, 1, 1, 4);
        due("not yet", x.drift(3), 0);
        due("CELL 25", x.drift(1), 2);
        due("as told", x.told(6), 2);
        x.undo(1);
        due("undone", x.told(6), 0);
        x.seed(0);
        due("all four at once", x.drift(4), 2);
    }

    private void undo() {
        start("The n latest (1 .. 16) are undone: how many can be then. OUTSIDE");
        for (int i = 0; i < 20; i++) {
            x.tide(i % 7 - 3);
        }
        due("0", x.undo(0), OUTSIDE);
        due("-1", x.undo(-1), OUTSIDE);
        due("17", x.undo(17), OUTSIDE);
        for (int v : FAR) {
            due("" + v, x.undo(v), OUTSIDE);
        }
        due("nothing is undone", x.told(13), 16);
        due("1", x.undo(1), 15);
        due("TIDE", x.told(2), 1);
        due("15", x.undo(15), 0);
        due("TIDE", x.told(2), 0);
        for (int i = 0; i < 16; i++) {
            x.tide(2);
        }
        due("16", x.undo(16), 0);
        due("TIDE", x.told(2), 0);
    }

    private void undoNotSoMany() {
        start("undo: NOT: not so many.");
        for (int n = 1; n <= 16; n++) {
            due("none", x.undo(n), NOT);
        }
        for (int i = 1; i <= 15; i++) {
            x.tide(1);
            due("one more", x.undo(i + 1), NOT);
            due("all are there", x.told(13), i);
        }
        due("just as many", x.undo(15), 0);
        due("no more", x.undo(1), NOT);
    }

    private void write() {
        start("An entry behind THE BOOK: how many. UNKNOWN, FULL (20).");
        due("no SHIP", x.write(0, 0), UNKNOWN);
        x.arrive(1, 0, 1);
        due("it WAITS only", x.write(0, 0), UNKNOWN);
        x.turnAway(0);
        layRow(5, 0, 0);
        due("5", x.write(5, 0), UNKNOWN);
        due("-1", x.write(-1, 0), UNKNOWN);
        for (int v : FAR) {
            due("" + v, x.write(v, 0), UNKNOWN);
        }
        due("none is written", x.told(11), 0);
        for (int i = 0; i < 20; i++) {
            due("how many", x.write(i % 5, i % 5), i + 1);
        }
        due("a 21st", x.write(0, 1), FULL);
        due("20", x.told(11), 20);
        due("none is WRONG", x.told(12), NONE);
        x.leave(4);
        due("SHIP 4 is no more", x.told(12), 4);
    }

    private void tear() {
        start("No BOOK: how much it had.");
        due("none", x.tear(), 0);
        lay(1, 0, 1, 0, 0);
        x.write(0, 5);
        due("one", x.tear(), 1);
        due("none", x.tear(), 0);
        due("no entries", x.told(11), 0);
        due("none is WRONG", x.told(12), NONE);
        for (int i = 0; i < 20; i++) {
            x.write(0, 5);
        }
        due("20", x.tear(), 20);
        due("a first one", x.write(0, 0), 1);
        due("none is WRONG", x.told(12), NONE);
    }

    private void seed() {
        start("THE SEED becomes v (0 .. 2147483647): what it was. OUTSIDE.");
        due("most", x.seed(MAX), 0);
        due("least", x.seed(0), MAX);
        due("is so", x.told(14), 0);
        due("one less than most", x.seed(MAX - 1), 0);
        due("-1", x.seed(-1), OUTSIDE);
        due("least of all", x.seed(MIN), OUTSIDE);
        due("is so", x.told(14), MAX - 1);
    }

    private void keep() {
        start("IMAGE i becomes what is so (nothing can be undone then): 1. UNKNOWN.");
        x.tide(1);
        due("2", x.keep(2), UNKNOWN);
        due("-1", x.keep(-1), UNKNOWN);
        for (int v : FAR) {
            due("" + v, x.keep(v), UNKNOWN);
        }
        due("one can be undone", x.told(13), 1);
        due("0", x.keep(0), 1);
        due("none can be undone", x.told(13), 0);
        due("none can be undone", x.undo(1), NOT);
        x.tide(2);
        due("1", x.keep(1), 1);
        due("none can be undone", x.told(13), 0);
        x.tide(3);
        due("0 again", x.keep(0), 1);
        x.tide(0);
        x.goBack(0);
        due("the later one", x.told(2), 3);
    }

    private void goBack() {
        start("What is so becomes IMAGE i (nothing can be undone then): 1. UNKNOWN, NOT: it was not kept.");
        x.tide(1);
        due("2", x.goBack(2), UNKNOWN);
        due("-1", x.goBack(-1), UNKNOWN);
        for (int v : FAR) {
            due("" + v, x.goBack(v), UNKNOWN);
        }
        due("0 was not kept", x.goBack(0), NOT);
        due("1 was not kept", x.goBack(1), NOT);
        due("one can be undone", x.told(13), 1);
        x.keep(0);
        x.tide(2);
        due("1 was not kept", x.goBack(1), NOT);
        due("TIDE", x.told(2), 2);
        due("0", x.goBack(0), 1);
        due("TIDE", x.told(2), 1);
        due("none can be undone", x.told(13), 0);
        due("none can be undone", x.undo(1), NOT);
        due("0 once more", x.goBack(0), 1);
        due("TIDE", x.told(2), 1);
    }
}
