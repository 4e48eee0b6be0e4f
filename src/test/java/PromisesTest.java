/** Each promise of the document by runs worked out by hand: what is usual, its edges, wrong inputs. */
public final class PromisesTest extends Sheet {
    private static final int[] WRONG = {-1, MIN, MAX, 1 << 16, -65536};

    private void start(int number) {
        start("promise " + number);
    }

    private void start(int number, int w, int h) {
        start("promise " + number, w, h);
    }

    public static void main(String[] args) {
        PromisesTest t = new PromisesTest();
        t.newObject();
        t.toldNumbers();
        t.toldDanger();
        t.toldClashOutside();
        t.toldPlacesForAll();
        t.toldBook();
        t.cells();
        t.ships();
        t.shipLeastWater();
        t.waitsPlaces();
        t.waitsFirst();
        t.movesNone();
        t.movesOne();
        t.movesTwo();
        t.movesThree();
        t.movesLeastSet();
        t.lies();
        t.harbour();
        t.depth();
        t.tide();
        t.winds();
        t.arrive();
        t.anchor();
        t.fit();
        t.fitAll();
        t.shift();
        t.leave();
        t.turnAway();
        t.drift();
        t.undo();
        t.undoRing();
        t.book();
        t.seed();
        t.images();
        t.refusedChangesNothing();
        t.end();
    }

    private void newObject() {
        start(1);
        int[] first = {6, 6, 0, 255, 0, 0, 0, 0, 1, 0, 0, 0, NONE, 0, 0};
        for (int what = 0; what < first.length; what++) {
            due("told(" + what + ")", x.told(what), first[what]);
        }
        for (int i = 0; i < 36; i++) {
            due("cell", x.cell(i % 6, i / 6, 0), 5);
        }
        due("goBack(0)", x.goBack(0), NOT);
        due("goBack(1)", x.goBack(1), NOT);
    }

    private void toldNumbers() {
        start(2, 3, 7);
        x.tide(-2);
        x.winds(5);
        x.seed(77);
        x.arrive(1, 0, 1);
        x.arrive(1, 0, 1);
        x.anchor(0, 2, 6);
        due("W", x.told(0), 3);
        due("H", x.told(1), 7);
        due("TIDE", x.told(2), -2);
        due("FORESEEN", x.told(3), 5);
        due("at ANCHOR", x.told(4), 1);
        due("WAIT", x.told(5), 1);
        due("SWEPT", x.told(10), 1);
        due("undone", x.told(13), 6);
        due("THE SEED", x.told(14), 77);
        for (int v : WRONG) {
            due("told(" + v + ")", x.told(v), OUTSIDE);
        }
        due("told(15)", x.told(15), OUTSIDE);
    }

    private void toldDanger() {
        start(2);
        x.winds(1);
        lay(1, 0, 1, 2, 2);
        lay(1, 1, 1, 2, 3);
        lay(4, 0, 1, 5, 5);
        due("IN DANGER", x.told(6), 0);
        due("CLASH", x.told(7), 0);
        due("THREATS", x.told(9), 16);
        due("SWEPT", x.told(10), 3);
        x.winds(17);
        due("IN DANGER", x.told(6), 3);
        due("CLASH", x.told(7), 1);
        due("THREATS of others", x.told(9), 0);
        due("SWEPT, each once", x.told(10), 3);
        x.depth(5, 5, 3);
        due("IN DANGER, too shallow", x.told(6), 7);
        due("CLASH", x.told(7), 1);
        x.depth(2, 1, 0);
        x.winds(1);
        due("IN DANGER", x.told(6), 4);
        due("THREATS", x.told(9), 16);
        x.leave(0);
        due("THREATS without a clash", x.told(9), 0);
        x.depth(2, 2, 0);
        due("THREATS by a shoal", x.told(9), 16);
    }

    private void toldClashOutside() {
        start(2);
        x.winds(16);
        lay(1, 1, 1, 0, 5);
        lay(1, 2, 1, 0, 4);
        due("CLASH", x.told(7), 0);
        x.winds(1);
        due("CLASH out of THE HARBOUR", x.told(7), 1);
        due("IN DANGER", x.told(6), 3);
        due("CELLS, swept", x.told(10), 0);
    }

    private void toldPlacesForAll() {
        start(2, 2, 2);
        due("none WAITS", x.told(8), 1);
        x.arrive(1, 0, 1);
        x.arrive(5, 0, 1);
        x.arrive(1, 0, 1);
        due("three in 2 by 2", x.told(8), 1);
        x.fit(0);
        x.arrive(1, 0, 1);
        due("a fourth", x.told(8), 1);
        x.fit(0);
        x.arrive(1, 0, 1);
        due("a fifth", x.told(8), 0);
        due("one of them", x.waits(2, 3), 2);
    }

    private void toldBook() {
        start(2);
        lay(1, 0, 1, 1, 0);
        lay(1, 0, 1, 2, 0);
        due("none WRONG", x.told(12), NONE);
        x.write(0, 1);
        x.write(1, 2);
        due("entries", x.told(11), 2);
        due("none WRONG", x.told(12), NONE);
        x.write(1, 3);
        due("WRONG", x.told(12), 2);
        x.leave(1);
        due("WRONG, no more", x.told(12), 1);
        x.leave(0);
        due("WRONG, none there", x.told(12), 0);
        x.undo(2);
        due("WRONG, undone", x.told(12), 2);
    }

    private void cells() {
        start(3, 7, 2);
        x.winds(4);
        x.depth(6, 1, 9);
        x.tide(-3);
        due("DEPTH", x.cell(6, 1, 0), 9);
        due("WATER", x.cell(6, 1, 1), 6);
        x.depth(6, 1, 2);
        due("WATER is never below 0", x.cell(6, 1, 1), 0);
        lay(2, 1, 2, 0, 0);
        for (int i = 0; i < 14; i++) {
            int swept = i % 7 == 1 || i % 7 == 2 ? 1 : 0;
            due("SWEEPS " + i, x.cell(i % 7, i / 7, 2), swept);
        }
        x.arrive(2, 2, 1);
        x.arrive(3, 0, 1);
        x.arrive(1, 0, 1);
        due("lies off 1 by 2", x.cell(1, 0, 3), 1);
        due("lies on 2, a clash", x.cell(0, 0, 3), 4);
        due("for two", x.cell(3, 0, 3), 5);
        due("beyond the edge", x.cell(5, 0, 3), 4);
        due("shoal", x.cell(6, 1, 3), 0);
        due("towards the shoal", x.cell(4, 1, 3), 4);
        due("x", x.cell(7, 0, 0), UNKNOWN);
        due("y", x.cell(0, 2, 0), UNKNOWN);
        due("UNKNOWN ahead of OUTSIDE", x.cell(-1, 0, 4), UNKNOWN);
        due("what", x.cell(0, 0, 4), OUTSIDE);
        for (int v : WRONG) {
            due("x", x.cell(v, 0, 0), UNKNOWN);
            due("y", x.cell(0, v, 0), UNKNOWN);
            due("what", x.cell(0, 0, v), OUTSIDE);
        }
    }

    private void ships() {
        start(4);
        x.winds(1);
        lay(3, 1, 2, 4, 3);
        lay(4, 2, 1, 0, 3);
        lay(5, 0, 1, 0, 0);
        int[][] due = {{3, 1, 2, 22, 4, 0, 1, 102}, {4, 2, 1, 18, 1, 0, 1, 101}, {5, 0, 1, 0, 1, 0, 1, 100}};
        for (int a = 0; a < 3; a++) {
            for (int what = 0; what < 8; what++) {
                due("ship(" + a + ", " + what + ")", x.ship(a, what), due[a][what]);
            }
        }
        due("no SHIP", x.ship(3, 0), UNKNOWN);
        due("UNKNOWN ahead of OUTSIDE", x.ship(3, 8), UNKNOWN);
        due("what", x.ship(0, 8), OUTSIDE);
        for (int v : WRONG) {
            due("no SHIP", x.ship(v, 0), UNKNOWN);
            due("what", x.ship(0, v), OUTSIDE);
        }
    }

    private void shipLeastWater() {
        start(4);
        x.winds(1);
        lay(5, 2, 2, 2, 2);
        lay(1, 0, 1, 2, 1);
        x.winds(17);
        due("SWEEPS", x.ship(0, 4), 8);
        due("CLASHES", x.ship(0, 5), 2);
        due("CLASHES", x.ship(1, 5), 1);
        due("MAY LIE", x.ship(0, 6), 1);
        due("least WATER", x.ship(0, 7), 100);
        x.tide(1);
        due("least WATER, tide", x.ship(0, 7), 101);
        x.depth(3, 1, 1);
        due("least WATER, shoal", x.ship(0, 7), 97);
        due("MAY not LIE", x.ship(0, 6), 0);
        due("least WATER, a shoal elsewhere", x.ship(1, 7), 105);
        x.tide(-3);
        due("least WATER, none", x.ship(0, 7), 95);
        x.winds(4);
        due("beside the edge", x.ship(0, 4), 4);
        due("by wind 2", x.ship(0, 7), 97);
        x.tide(0);
        x.undo(1);
        x.leave(0);
        x.winds(16);
        x.tide(0);
        lay(2, 2, 1, 0, 3);
        x.winds(17 | 64);
        due("of THE HARBOUR", x.ship(1, 4), 2);
        due("out of THE HARBOUR is no WATER", x.ship(1, 7), 98);
        due("out of THE HARBOUR", x.ship(1, 6), 0);
    }

    private void waitsPlaces() {
        start(5);
        x.arrive(3, 1, 1);
        x.arrive(5, 2, 2);
        x.arrive(6, 0, 1);
        int[][] due = {{3, 1, 1, 16, 7, NONE, 0, 0}, {5, 2, 2, 1, 14, NONE, 0, 0}, {6, 0, 1, 0, NONE, NONE, NONE, NONE}};
        for (int k = 0; k < 3; k++) {
            for (int what = 0; what < 8; what++) {
                due("waits(" + k + ", " + what + ")", x.waits(k, what), due[k][what]);
            }
        }
        due("none WAITS there", x.waits(3, 0), UNKNOWN);
        due("UNKNOWN ahead of OUTSIDE", x.waits(3, 8), UNKNOWN);
        due("what", x.waits(0, 8), OUTSIDE);
        for (int v : WRONG) {
            due("none WAITS there", x.waits(v, 0), UNKNOWN);
            due("what", x.waits(0, v), OUTSIDE);
        }
    }

    private void waitsFirst() {
        start(5, 3, 2);
        x.depth(2, 0, 2);
        x.depth(2, 1, 2);
        x.arrive(1, 0, 1);
        x.arrive(5, 0, 2);
        due("the first of all its PLACES", x.waits(0, 4), 0);
        due("in FIRST it makes way", x.waits(0, 5), 2);
        due("the second in FIRST", x.waits(1, 5), 0);
        x.arrive(2, 0, 1);
        due("the third in FIRST", x.waits(2, 5), 5);
        due("the second in FIRST", x.waits(1, 5), 0);
        due("the first in FIRST", x.waits(0, 5), 2);
        x.depth(2, 1, 1);
        due("no PLACES for ALL", x.waits(0, 5), 5);
        x.depth(2, 0, 1);
        due("no PLACES for ALL", x.waits(0, 5), NONE);
        due("PLACES for one", x.waits(0, 3), 6);
    }

    private void movesNone() {
        start(6, 2, 2);
        x.arrive(1, 0, 1);
        due("none moved: its own", x.moves(0, 0), 0);
        due("none moved: the first", x.moves(0, 1), NONE);
        due("none moved: the second", x.moves(0, 2), NONE);
        x.fit(0);
        x.arrive(1, 0, 2);
        due("no MOVES", x.moves(0, 0), NONE);
        due("no MOVES", x.moves(0, 1), NONE);
        due("no MOVES", x.waits(0, 6), NONE);
        due("no MOVES", x.waits(0, 7), NONE);
        due("none WAITS there", x.moves(1, 0), UNKNOWN);
        due("UNKNOWN ahead of OUTSIDE", x.moves(1, 3), UNKNOWN);
        due("i", x.moves(0, 3), OUTSIDE);
        for (int v : WRONG) {
            due("none WAITS there", x.moves(v, 0), UNKNOWN);
            due("i", x.moves(0, v), OUTSIDE);
        }
    }

    private void movesOne() {
        start(6, 3, 2);
        lay(1, 0, 1, 1, 0);
        x.arrive(1, 0, 2);
        due("no PLACE", x.waits(0, 3), 0);
        due("how many", x.waits(0, 6), 1);
        due("which", x.waits(0, 7), 1);
        due("its own", x.moves(0, 0), 0);
        due("the one moved", x.moves(0, 1), 2);
        due("not so many", x.moves(0, 2), NONE);
    }

    private void movesTwo() {
        start(6, 3, 2);
        lay(1, 0, 1, 1, 1);
        lay(1, 0, 1, 1, 0);
        x.arrive(1, 0, 2);
        due("how many", x.waits(0, 6), 2);
        due("which", x.waits(0, 7), 3);
        due("its own", x.moves(0, 0), 0);
        due("the first moved", x.moves(0, 1), 2);
        due("the second moved", x.moves(0, 2), 5);
        due("shift", x.shift(0), 2);
        due("ship 0", x.ship(0, 3), 2);
        due("ship 1", x.ship(1, 3), 5);
        due("ship 2", x.ship(2, 3), 0);
        due("IN DANGER", x.told(6), 0);
    }

    // Only 2 by 2 cells are deep enough for the one that waits.
    private void deepCorner() {
        start(6, 7, 2);
        for (int i = 0; i < 14; i++) {
            x.depth(i % 7, i / 7, i % 7 < 2 ? 5 : 2);
        }
    }

    private void movesThree() {
        deepCorner();
        lay(1, 0, 1, 0, 0);
        lay(1, 0, 1, 1, 0);
        x.arrive(5, 0, 2);
        due("two are moved", x.waits(0, 7), 3);
        due("the first moved", x.moves(0, 1), 2);
        due("the second moved", x.moves(0, 2), 3);
        lay(1, 0, 1, 0, 1);
        due("three would be too many", x.waits(0, 6), NONE);
        due("three would be too many", x.moves(0, 0), NONE);
        due("three would be too many", x.shift(0), NOT);
    }

    private void movesLeastSet() {
        start(6, 4, 2);
        lay(1, 0, 1, 2, 1);
        lay(1, 0, 1, 1, 0);
        x.arrive(1, 0, 2);
        due("the least SET, though its cell is greater", x.waits(0, 7), 1);
        due("its own", x.moves(0, 0), 2);
        due("the one moved", x.moves(0, 1), 0);

        deepCorner();
        lay(2, 0, 1, 6, 0);
        lay(3, 0, 1, 0, 0);
        x.depth(6, 0, 0);
        x.depth(5, 0, 3);
        x.arrive(5, 0, 2);
        due("one that stays may be in danger", x.waits(0, 7), 2);
        due("the one moved", x.moves(0, 1), 5);
        x.depth(5, 0, 2);
        due("the one moved must lie well", x.waits(0, 6), NONE);
    }

    private void lies() {
        start(7);
        x.winds(1);
        lay(1, 2, 2, 2, 2);
        int[][] first = {{2, 4}, {4, 4}, {4, 2}, {4, 0}, {2, 0}, {0, 0}, {0, 2}, {0, 4}};
        for (int wind = 0; wind < 8; wind++) {
            for (int i = 0; i < 36; i++) {
                int dx = i % 6 - first[wind][0];
                int dy = i / 6 - first[wind][1];
                int want = (dx == 0 || dx == 1) && (dy == 0 || dy == 1) ? 1 : 0;
                due("lies by " + wind + " on " + i, x.lies(0, wind, i % 6, i / 6), want);
            }
        }
        due("wind", x.lies(0, 8, 0, 0), OUTSIDE);
        due("UNKNOWN ahead of OUTSIDE", x.lies(0, 8, 6, 0), UNKNOWN);
        due("no SHIP", x.lies(1, 0, 0, 0), UNKNOWN);
        for (int v : WRONG) {
            due("no SHIP", x.lies(v, 0, 0, 0), UNKNOWN);
            due("wind", x.lies(0, v, 0, 0), OUTSIDE);
            due("x", x.lies(0, 0, v, 0), UNKNOWN);
            due("y", x.lies(0, 0, 0, v), UNKNOWN);
        }
    }

    private void harbour() {
        start(8);
        lay(1, 0, 1, 0, 0);
        lay(1, 0, 1, 5, 5);
        x.arrive(1, 0, 1);
        x.depth(0, 0, 9);
        x.tide(3);
        x.winds(3);
        x.seed(5);
        x.write(0, 0);
        due("w", x.harbour(1, 2), OUTSIDE);
        due("h", x.harbour(2, 1), OUTSIDE);
        due("w", x.harbour(8, 2), OUTSIDE);
        due("h", x.harbour(2, 8), OUTSIDE);
        due("nothing has changed", x.told(4), 2);
        due("how many were at ANCHOR", x.harbour(7, 2), 2);
        int[] due = {7, 2, 3, 3, 0, 0, 0, 0, 1, 0, 0, 1, 0, 9, 5};
        for (int what = 0; what < due.length; what++) {
            due("told(" + what + ")", x.told(what), due[what]);
        }
        due("DEPTH", x.cell(0, 0, 0), 5);
        due("the last CELL", x.cell(6, 1, 0), 5);
        due("beyond it", x.cell(6, 2, 0), UNKNOWN);
        due("least", x.harbour(2, 2), 0);
        due("most", x.harbour(7, 7), 0);
    }

    private void depth() {
        start(9);
        due("what it was", x.depth(5, 4, 0), 5);
        due("what it was", x.depth(5, 4, 9), 0);
        due("the same", x.depth(5, 4, 9), 9);
        due("is so", x.cell(5, 4, 0), 9);
        due("elsewhere", x.cell(4, 5, 0), 5);
        due("UNKNOWN ahead of OUTSIDE", x.depth(6, 0, 10), UNKNOWN);
        due("v", x.depth(5, 4, 10), OUTSIDE);
        due("deeds", x.told(13), 3);
        for (int v : WRONG) {
            due("x", x.depth(v, 0, 1), UNKNOWN);
            due("y", x.depth(0, v, 1), UNKNOWN);
            due("v", x.depth(5, 4, v), OUTSIDE);
        }
        due("nothing has changed", x.cell(5, 4, 0), 9);
        due("deeds", x.told(13), 3);
    }

    private void tide() {
        start(10);
        due("what it was", x.tide(3), 0);
        due("what it was", x.tide(-3), 3);
        due("too low", x.tide(-4), OUTSIDE);
        due("too high", x.tide(4), OUTSIDE);
        due("WATER", x.cell(0, 0, 1), 2);
        due("deeds", x.told(13), 2);
    }

    private void winds() {
        start(11);
        due("what it was", x.winds(1), 255);
        due("what it was", x.winds(255), 1);
        due("none", x.winds(0), OUTSIDE);
        due("too many", x.winds(256), OUTSIDE);
        due("below 0", x.winds(-1), OUTSIDE);
        due("is so", x.told(3), 255);
        due("deeds", x.told(13), 2);
    }

    private void arrive() {
        start(12);
        due("least", x.arrive(1, 0, 1), 0);
        due("most", x.arrive(9, 2, 2), 1);
        int[][] bad = {{0, 0, 1}, {10, 0, 1}, {1, -1, 1}, {1, 3, 1}, {1, 0, 0}, {1, 0, 3}};
        for (int[] b : bad) {
            due("out of bounds", x.arrive(b[0], b[1], b[2]), OUTSIDE);
        }
        due("a third", x.arrive(4, 1, 2), 2);
        due("a fourth", x.arrive(1, 0, 1), FULL);
        due("OUTSIDE ahead of FULL", x.arrive(0, 0, 1), OUTSIDE);
        due("how many", x.told(5), 3);
        due("deeds", x.told(13), 3);
    }

    private void anchor() {
        start(13, 3, 3);
        x.arrive(1, 0, 1);
        x.arrive(2, 0, 1);
        x.arrive(3, 1, 1);
        due("none WAITS there", x.anchor(3, 0, 0), UNKNOWN);
        due("no CELL", x.anchor(0, 3, 0), UNKNOWN);
        due("it would lie out", x.anchor(2, 0, 0), NOT);
        due("its number", x.anchor(1, 2, 2), 0);
        due("the same cell", x.anchor(0, 2, 2), NOT);
        due("later ones have one number less", x.waits(1, 0), 3);
        due("its number", x.anchor(0, 0, 2), 1);
        due("its ANCHOR", x.ship(1, 3), 6);
        due("it would clash", x.anchor(0, 1, 1), NOT);
        for (int i = 0; i < 3; i++) {
            lay(1, 0, 1, i, 0);
        }
        x.arrive(1, 0, 1);
        due("NOT ahead of FULL", x.anchor(1, 0, 0), NOT);
        due("a sixth", x.anchor(1, 1, 1), FULL);
        due("how many", x.told(4), 5);
        for (int v : WRONG) {
            due("none WAITS there", x.anchor(v, 1, 1), UNKNOWN);
            due("x", x.anchor(0, v, 1), UNKNOWN);
            due("y", x.anchor(0, 1, v), UNKNOWN);
        }
    }

    private void fit() {
        start(14, 3, 2);
        x.arrive(1, 0, 1);
        x.arrive(2, 0, 2);
        due("none WAITS there", x.fit(2), UNKNOWN);
        due("none WAITS there", x.fit(-1), UNKNOWN);
        due("its CELL", x.fit(0), 0);
        due("its CELL", x.fit(0), 1);
        due("the ANCHORS", x.ship(1, 3), 1);
        due("each is a deed", x.undo(1), 4);
        due("it WAITS again", x.waits(0, 2), 2);
        due("its CELL", x.fit(0), 1);
        x.arrive(6, 0, 1);
        due("there is none", x.fit(0), NOT);
        x.turnAway(0);
        x.harbour(7, 7);
        for (int i = 0; i < 5; i++) {
            x.arrive(1, 0, 1);
            due("its CELL", x.fit(0), i);
        }
        x.arrive(1, 0, 1);
        due("a sixth", x.fit(0), FULL);
        x.arrive(9, 0, 1);
        due("NOT ahead of FULL", x.fit(1), NOT);
        due("none is gone", x.told(5), 2);
    }

    private void fitAll() {
        start(15, 3, 2);
        due("none WAITS", x.fitAll(), NOT);
        x.depth(2, 0, 2);
        x.depth(2, 1, 2);
        x.arrive(1, 0, 1);
        x.arrive(5, 0, 2);
        int deeds = x.told(13);
        due("how many", x.fitAll(), 2);
        due("one deed", x.told(13), deeds + 1);
        due("none WAITS", x.told(5), 0);
        due("in their order", x.ship(0, 3), 2);
        due("in their order", x.ship(1, 3), 0);
        due("in their order", x.ship(1, 0), 5);
        x.arrive(1, 0, 1);
        x.arrive(1, 0, 1);
        due("no PLACES for ALL", x.fitAll(), NOT);
        due("undone", x.undo(3), deeds);
        due("they WAIT again", x.told(5), 2);
        x.harbour(7, 7);
        for (int i = 0; i < 3; i++) {
            lay(1, 0, 1, i, 6);
        }
        for (int i = 0; i < 3; i++) {
            x.arrive(1, 0, 1);
        }
        due("more than 5", x.fitAll(), FULL);
        x.turnAway(1);
        due("just 5", x.fitAll(), 2);
        x.arrive(9, 0, 1);
        due("NOT ahead of FULL", x.fitAll(), NOT);
    }

    private void shift() {
        start(16, 3, 2);
        due("none WAITS there", x.shift(0), UNKNOWN);
        lay(1, 0, 1, 1, 0);
        x.arrive(9, 0, 1);
        x.arrive(1, 0, 2);
        due("there are none", x.shift(0), NOT);
        due("how many were moved", x.shift(1), 1);
        due("moved", x.ship(0, 3), 2);
        due("behind the others", x.ship(1, 3), 0);
        due("behind the others", x.ship(1, 2), 2);
        due("who WAITS still", x.waits(0, 0), 9);
        due("one deed", x.undo(1), 5);
        due("as ahead", x.ship(0, 3), 1);
        due("as ahead", x.told(5), 2);
        x.harbour(7, 7);
        for (int i = 0; i < 5; i++) {
            lay(1, 0, 1, i, 0);
        }
        x.arrive(1, 0, 2);
        x.arrive(9, 0, 1);
        due("a sixth", x.shift(0), FULL);
        due("NOT ahead of FULL", x.shift(1), NOT);
        due("none is moved", x.told(4), 5);
        for (int v : WRONG) {
            due("none WAITS there", x.shift(v), UNKNOWN);
        }
    }

    private void leave() {
        start(17);
        lay(1, 0, 1, 0, 0);
        lay(2, 0, 1, 1, 0);
        lay(3, 0, 1, 2, 0);
        due("no SHIP", x.leave(3), UNKNOWN);
        for (int v : WRONG) {
            due("no SHIP", x.leave(v), UNKNOWN);
        }
        due("how many are left", x.leave(1), 2);
        due("number 0", x.ship(0, 0), 1);
        due("one number less", x.ship(1, 0), 3);
        due("one number less", x.ship(1, 3), 2);
        due("how many are left", x.leave(1), 1);
        due("how many are left", x.leave(0), 0);
        due("no SHIP", x.leave(0), UNKNOWN);
        due("each is a deed", x.undo(3), 6);
        due("in their order", x.ship(0, 0) * 100 + x.ship(1, 0) * 10 + x.ship(2, 0), 123);
    }

    private void turnAway() {
        start(18);
        x.arrive(1, 0, 1);
        x.arrive(2, 1, 2);
        x.arrive(3, 2, 1);
        due("none WAITS there", x.turnAway(3), UNKNOWN);
        for (int v : WRONG) {
            due("none WAITS there", x.turnAway(v), UNKNOWN);
        }
        due("how many are left", x.turnAway(0), 2);
        due("one number less", x.waits(0, 0), 2);
        due("one number less", x.waits(1, 1), 2);
        due("how many are left", x.turnAway(1), 1);
        due("number 0", x.waits(0, 2), 2);
        due("how many are left", x.turnAway(0), 0);
        due("none WAITS there", x.turnAway(0), UNKNOWN);
        due("each is a deed", x.undo(3), 3);
        due("all WAIT again", x.told(5), 3);
        due("in their order", x.waits(0, 0) * 100 + x.waits(1, 0) * 10 + x.waits(2, 0), 123);
    }

    // THE SEED from 0 on is 12345, 1406932606, 654583775, 1449466924; by 65536 that is 0, 21468,
    // 9988, 22117: CELL 0 becomes 8, then CELL 16 becomes 7.
    private void drift() {
        start(19);
        due("too few", x.drift(0), OUTSIDE);
        due("too many", x.drift(13), OUTSIDE);
        due("THE SEED", x.told(14), 0);
        due("none IN DANGER", x.drift(1), 0);
        due("THE SEED", x.told(14), 1406932606);
        due("DEPTH of 0", x.cell(0, 0, 0), 8);
        due("none IN DANGER", x.drift(1), 0);
        due("THE SEED", x.told(14), 1449466924);
        due("DEPTH of 16", x.cell(4, 2, 0), 7);
        due("each is a deed", x.undo(1), 1);
        due("DEPTH as ahead", x.cell(4, 2, 0), 5);
        due("DEPTH of 0", x.cell(0, 0, 0), 8);
        due("THE SEED stays", x.told(14), 1449466924);
        x.seed(0);
        x.depth(0, 0, 9);
        lay(9, 0, 1, 0, 0);
        due("IN DANGER", x.drift(2), 1);
        due("deeds", x.told(13), 6);
        due("most", x.drift(12), x.told(6));
        due("deeds", x.told(13), 16);
    }

    private void undo() {
        start(20);
        due("too few", x.undo(0), OUTSIDE);
        due("too many", x.undo(17), OUTSIDE);
        due("not so many", x.undo(1), NOT);
        lay(1, 0, 1, 3, 3);
        x.write(0, 21);
        x.seed(9);
        x.tide(2);
        x.winds(7);
        x.depth(3, 3, 0);
        x.arrive(2, 1, 2);
        x.harbour(2, 7);
        due("not so many", x.undo(8), NOT);
        due("of 7, 1", x.undo(1), 6);
        due("W", x.told(0), 6);
        due("DEPTH", x.cell(3, 3, 0), 0);
        due("WAITS", x.waits(0, 0), 2);
        due("at ANCHOR", x.ship(0, 3), 21);
        due("of 6, 3", x.undo(3), 3);
        due("none WAITS", x.told(5), 0);
        due("DEPTH", x.cell(3, 3, 0), 5);
        due("FORESEEN", x.told(3), 255);
        due("TIDE", x.told(2), 2);
        due("all", x.undo(3), 0);
        due("TIDE", x.told(2), 0);
        due("none at ANCHOR", x.told(4), 0);
        due("THE SEED stays", x.told(14), 9);
        due("THE BOOK stays", x.told(11), 1);
        due("undo is not undone", x.undo(1), NOT);
        for (int v : WRONG) {
            due("n", x.undo(v), OUTSIDE);
        }
    }

    private void undoRing() {
        start(20);
        for (int i = 0; i < 40; i++) {
            x.depth(0, 0, i % 10);
        }
        due("16 are kept", x.told(13), 16);
        due("of 16, 5", x.undo(5), 11);
        due("DEPTH", x.cell(0, 0, 0), 4);
        x.depth(0, 0, 9);
        due("of 12, 12", x.undo(12), 0);
        due("DEPTH", x.cell(0, 0, 0), 3);
        due("no more", x.undo(1), NOT);
        for (int i = 0; i < 20; i++) {
            x.tide(i % 3);
        }
        due("of 16, 16", x.undo(16), 0);
        due("TIDE", x.told(2), 0);
    }

    private void book() {
        start(21);
        due("no SHIP", x.write(0, 0), UNKNOWN);
        lay(1, 0, 1, 0, 0);
        for (int i = 0; i < 20; i++) {
            due("how many", x.write(0, i == 0 ? 0 : MIN + i), i + 1);
        }
        due("a 21st", x.write(0, 0), FULL);
        due("UNKNOWN ahead of FULL", x.write(1, 0), UNKNOWN);
        due("WRONG", x.told(12), 1);
        due("no deed", x.told(13), 2);
        for (int v : WRONG) {
            due("no SHIP", x.write(v, 0), UNKNOWN);
        }
        goOn("promise 22");
        due("how much it had", x.tear(), 20);
        due("no more", x.tear(), 0);
        due("entries", x.told(11), 0);
        due("none WRONG", x.told(12), NONE);
        due("no deed", x.told(13), 2);
        due("from the first on", x.write(0, 7), 1);
        due("WRONG", x.told(12), 0);
    }

    private void seed() {
        start(23);
        due("what it was", x.seed(MAX), 0);
        due("what it was", x.seed(5), MAX);
        due("below 0", x.seed(-1), OUTSIDE);
        due("below 0", x.seed(MIN), OUTSIDE);
        due("is so", x.told(14), 5);
        due("no deed", x.told(13), 0);
    }

    private void images() {
        start(24);
        due("IMAGE", x.keep(2), UNKNOWN);
        due("IMAGE", x.goBack(2), UNKNOWN);
        lay(2, 0, 1, 1, 1);
        x.arrive(3, 1, 2);
        x.seed(4);
        x.tide(-1);
        due("kept", x.keep(1), 1);
        due("nothing can be undone", x.told(13), 0);
        due("nothing can be undone", x.undo(1), NOT);
        goOn("promise 25");
        x.write(0, 7);
        x.seed(8);
        x.harbour(3, 3);
        x.winds(2);
        due("not kept", x.goBack(0), NOT);
        due("deeds stay", x.told(13), 2);
        due("kept", x.keep(0), 1);
        due("back", x.goBack(1), 1);
        int[] due = {6, 6, -1, 255, 1, 1, 0, 0, 1, 0, 1, 1, NONE, 0, 4};
        for (int what = 0; what < due.length; what++) {
            due("told(" + what + ")", x.told(what), due[what]);
        }
        due("at ANCHOR", x.ship(0, 3), 7);
        due("WAITS", x.waits(0, 1), 1);
        x.leave(0);
        x.depth(0, 0, 0);
        due("the IMAGE is as it was", x.goBack(1), 1);
        due("at ANCHOR", x.ship(0, 0), 2);
        due("DEPTH", x.cell(0, 0, 0), 5);
        due("nothing can be undone", x.told(13), 0);
        due("the other one", x.goBack(0), 1);
        due("W", x.told(0), 3);
        due("THE SEED", x.told(14), 8);
        for (int v : WRONG) {
            due("IMAGE", x.keep(v), UNKNOWN);
            due("IMAGE", x.goBack(v), UNKNOWN);
        }
    }

    private int[] picture() {
        int[] p = new int[15 + 24 + 24 + 36];
        int n = 0;
        for (int what = 0; what < 15; what++) {
            p[n++] = x.told(what);
        }
        for (int i = 0; i < 24; i++) {
            p[n++] = x.ship(i / 8, i % 8);
            p[n++] = x.waits(i / 8, i % 8);
        }
        for (int i = 0; i < 36; i++) {
            p[n++] = x.cell(i % 6, i / 6, 0);
        }
        return p;
    }

    private void refusedChangesNothing() {
        start(3);
        lay(2, 1, 1, 1, 1);
        x.arrive(9, 1, 2);
        x.write(0, 3);
        int[] before = picture();
        int[] refused = {x.harbour(1, 1), x.depth(0, 0, 10), x.tide(4), x.winds(0), x.arrive(1, 1, 3), x.anchor(0, 2, 2),
            x.fit(0), x.fitAll(), x.shift(0), x.leave(1), x.turnAway(1), x.drift(13), x.undo(4), x.write(1, 0), x.seed(-1),
            x.keep(2), x.goBack(0), x.goBack(-1)};
        for (int i = 0; i < refused.length; i++) {
            due("refusal " + i, refused[i] < -1000000000 ? 1 : 0, 1);
        }
        int[] after = picture();
        for (int i = 0; i < before.length; i++) {
            due("picture " + i, after[i], before[i]);
        }
    }
}
