/** The sentences of section 2 of 'Terms' that name a boundary, each by a run of its own. */
public final class PlacesTest extends Sheet {
    public static void main(String[] args) {
        PlacesTest t = new PlacesTest();
        t.place();
        t.noPlace();
        t.placesForAll();
        t.placesForNone();
        t.firstBySecond();
        t.firstTurnsBack();
        t.firstOfAll();
        t.movesNobody();
        t.movesAsFew();
        t.movesOneRatherThanTwo();
        t.movesTwoAtMost();
        t.movesToCellsOfOthers();
        t.movesOntoItsOwn();
        t.movesMustLieWell();
        t.movesClashWithNoneThatStays();
        t.movesLeastSetOfOne();
        t.movesLeastSetOfTwo();
        t.movesLeastRow();
        t.movesLeastRowOfThose();
        t.movesWithFive();
        t.threatByAnEdge();
        t.threatByAShoal();
        t.threatByEachWind();
        t.threatByAClash();
        t.threatToAnother();
        t.end();
    }

    private void place() {
        start("A PLACE for a SHIP: a CELL, where it MAY LIE, and does not CLASH with a SHIP at ANCHOR.");
        x.arrive(1, 0, 1);
        x.arrive(1, 0, 1);
        due("those that WAIT are not in the way", x.waits(1, 3), 36);
        due("all CELLS for both", x.cell(0, 0, 3), 3);
        x.anchor(0, 0, 0);
        due("one at ANCHOR is", x.waits(0, 3), 35);
        due("not that CELL", x.cell(0, 0, 3), 0);
        due("the next one", x.waits(0, 4), 1);
        x.depth(0, 0, 0);
        due("one IN DANGER is, too", x.told(6), 1);
        x.turnAway(0);
        x.arrive(1, 0, 2);
        x.depth(0, 0, 1);
        due("SIDE 2 on its CELL", x.cell(0, 0, 3), 0);
        due("SIDE 2 beside it", x.cell(1, 0, 3), 1);
    }

    private void noPlace() {
        start("4 the first (NONE)");
        x.arrive(6, 0, 1);
        due("too deep", x.waits(0, 3), 0);
        due("too deep", x.waits(0, 4), NONE);
        due("too deep", x.waits(0, 5), NONE);
        x.depth(5, 5, 6);
        due("the last CELL alone", x.waits(0, 3), 1);
        due("the last CELL alone", x.waits(0, 4), 35);
        lay(1, 0, 1, 5, 5);
        due("it is taken", x.waits(0, 3), 0);
        due("it is taken", x.waits(0, 4), NONE);
    }

    private void placesForAll() {
        start("PLACES for ALL: for each SHIP that WAITS a PLACE, such that no two of them CLASH", 2, 2);
        layRow(2, 0, 0);
        x.arrive(1, 0, 1);
        x.arrive(1, 0, 1);
        due("two CELLS for two", x.told(8), 1);
        due("the first", x.waits(0, 5), 2);
        due("the second", x.waits(1, 5), 3);
        x.arrive(1, 0, 1);
        due("two CELLS for three", x.told(8), 0);
        for (int k = 0; k < 3; k++) {
            due("none of them has one in FIRST", x.waits(k, 5), NONE);
            due("each has PLACES", x.waits(k, 3), 2);
        }
        x.turnAway(2);
        x.arrive(9, 0, 1);
        due("one without a PLACE", x.told(8), 0);
        due("none has one in FIRST", x.waits(0, 5), NONE);
        x.leave(0);
        x.turnAway(2);
        x.arrive(1, 0, 1);
        due("three CELLS for three", x.told(8), 1);
        due("the last", x.waits(2, 5), 3);
    }

    private void placesForNone() {
        start("8 1 there are PLACES for ALL (also if none WAITS), 0 not", 2, 2);
        due("no SHIP", x.told(8), 1);
        lay(1, 0, 2, 0, 0);
        due("no CELL left", x.told(8), 1);
        x.arrive(1, 0, 1);
        due("one WAITS", x.told(8), 0);
        x.turnAway(0);
        due("none WAITS", x.told(8), 1);
        goOn("NOT: there are no PLACES for ALL (none WAITS: too)");
        due("none WAITS", x.fitAll(), NOT);
    }

    private void firstBySecond() {
        start("FIRST: that whose first CELL (of the first that WAITS) has the least number, then the second", 5, 2);
        x.arrive(1, 0, 1);
        x.arrive(1, 0, 2);
        x.arrive(1, 0, 2);
        due("the first", x.waits(0, 5), 0);
        due("the second", x.waits(1, 5), 1);
        due("the third", x.waits(2, 5), 3);
        // Columns 1 to 3 alone are deep enough for the third: the second must go further.
        for (int y = 0; y < 2; y++) {
            x.depth(0, y, 1);
            x.depth(4, y, 1);
        }
        x.turnAway(2);
        x.arrive(5, 0, 2);
        due("the first stays", x.waits(0, 5), 0);
        due("the second makes way", x.waits(1, 5), 3);
        due("the third", x.waits(2, 5), 1);
    }

    private void firstTurnsBack() {
        start("FIRST: the first that WAITS makes way for the last", 7, 2);
        for (int i = 1; i < 7; i++) {
            x.depth(i, 0, 2);
        }
        x.arrive(2, 0, 1);
        x.arrive(2, 0, 1);
        x.arrive(5, 0, 1);
        due("the deep row is left", x.waits(0, 5), 0);
        due("the second", x.waits(1, 5), 1);
        due("the third", x.waits(2, 5), 7);
        for (int i = 0; i < 7; i++) {
            x.depth(i, 1, 1);
        }
        due("but one deep CELL: the first", x.waits(0, 5), 1);
        due("but one deep CELL: the second", x.waits(1, 5), 2);
        due("but one deep CELL: the third", x.waits(2, 5), 0);
    }

    private void firstOfAll() {
        start("All that WAIT have their ANCHORS as in FIRST, in their order", 3, 2);
        x.depth(0, 0, 9);
        x.arrive(1, 0, 1);
        x.arrive(2, 0, 1);
        x.arrive(9, 0, 1);
        due("how many", x.fitAll(), 3);
        due("the first", x.ship(0, 3), 1);
        due("the second", x.ship(1, 3), 2);
        due("the third", x.ship(2, 3), 0);
        due("in their order", x.ship(0, 0) * 100 + x.ship(1, 0) * 10 + x.ship(2, 0), 129);
        due("none WAITS", x.told(5), 0);
    }

    private void movesNobody() {
        start("MOVES: a row of SHIPS at ANCHOR (two at most, perhaps none)");
        x.arrive(1, 1, 1);
        due("none at ANCHOR: how many", x.waits(0, 6), 0);
        due("none at ANCHOR: which", x.waits(0, 7), 0);
        due("none at ANCHOR: its own", x.moves(0, 0), 7);
        due("no first", x.moves(0, 1), NONE);
        due("no second", x.moves(0, 2), NONE);
        due("shift", x.shift(0), 0);
        due("it is at ANCHOR", x.ship(0, 3), 7);
    }

    private void movesAsFew() {
        start("Of all such: as few SHIPS as can be", 3, 2);
        lay(1, 0, 1, 0, 0);
        x.arrive(1, 0, 1);
        due("none, though CELL 0 would be less", x.waits(0, 6), 0);
        due("which", x.waits(0, 7), 0);
        due("its own", x.moves(0, 0), 1);
    }

    private void movesOneRatherThanTwo() {
        start("as few SHIPS as can be; of those the one of least SETS", 7, 2);
        // Two pools of 2 by 2: in the first lie ships 0 and 1 (the SET 3), in the second ship 2 (the SET 4).
        pools(0, 4);
        lay(1, 0, 1, 0, 0);
        lay(1, 0, 1, 1, 1);
        lay(1, 0, 1, 4, 0);
        x.arrive(5, 0, 2);
        due("how many", x.waits(0, 6), 1);
        due("which", x.waits(0, 7), 4);
        due("its own", x.moves(0, 0), 4);
        due("the one moved", x.moves(0, 1), 1);
        due("not so many", x.moves(0, 2), NONE);
    }

    /** Depth 2 but for the two columns from each of these on. */
    private void pools(int... from) {
        for (int i = 0; i < 14; i++) {
            boolean deep = false;
            for (int f : from) {
                deep |= i % 7 == f || i % 7 == f + 1;
            }
            x.depth(i % 7, i / 7, deep ? 5 : 2);
        }
    }

    private void movesTwoAtMost() {
        start("NONE: there is none with two.", 7, 2);
        pools(3);
        lay(1, 0, 1, 3, 0);
        lay(1, 0, 1, 4, 1);
        x.arrive(5, 0, 2);
        due("two", x.waits(0, 6), 2);
        due("which", x.waits(0, 7), 3);
        due("its own", x.moves(0, 0), 3);
        due("the first", x.moves(0, 1), 0);
        due("the second", x.moves(0, 2), 1);
        lay(1, 0, 1, 3, 1);
        due("three", x.waits(0, 6), NONE);
        due("three", x.waits(0, 7), NONE);
        for (int i = 0; i < 3; i++) {
            due("three", x.moves(0, i), NONE);
        }
        due("three", x.shift(0), NOT);
        x.leave(1);
        due("two again", x.shift(0), 2);
    }

    private void movesToCellsOfOthers() {
        start("that are to have other CELLS (perhaps the same)", 3, 2);
        lay(1, 0, 1, 2, 0);
        lay(3, 0, 1, 0, 0);
        x.depth(2, 0, 3);
        x.depth(2, 1, 1);
        x.arrive(5, 0, 2);
        due("both", x.waits(0, 7), 3);
        due("its own, where ship 1 was", x.moves(0, 0), 0);
        due("ship 0", x.moves(0, 1), 5);
        due("ship 1, where ship 0 was", x.moves(0, 2), 2);
        due("shift", x.shift(0), 2);
        due("ship 0", x.ship(0, 3), 5);
        due("ship 1", x.ship(1, 3), 2);
        due("the one that has come", x.ship(2, 3), 0);
        due("none IN DANGER", x.told(6), 0);
    }

    private void movesOntoItsOwn() {
        start("that are to have other CELLS, also such on which they lie now", 3, 2);
        x.depth(0, 0, 9);
        lay(5, 0, 2, 0, 0);
        x.arrive(9, 0, 1);
        due("which", x.waits(0, 7), 1);
        due("its own", x.moves(0, 0), 0);
        due("one column on", x.moves(0, 1), 1);
        due("shift", x.shift(0), 1);
        due("none IN DANGER", x.told(6), 0);
    }

    private void movesMustLieWell() {
        start("such that the SHIP that WAITS, and each of these, MAY LIE there", 3, 2);
        lay(3, 0, 1, 0, 0);
        x.depth(2, 0, 2);
        x.depth(2, 1, 2);
        x.arrive(5, 0, 2);
        due("no CELL for the one moved", x.waits(0, 6), NONE);
        x.depth(2, 1, 3);
        due("just one", x.waits(0, 6), 1);
        due("that", x.moves(0, 1), 5);
        x.depth(0, 1, 4);
        due("no CELL for the one that WAITS", x.waits(0, 6), NONE);
    }

    private void movesClashWithNoneThatStays() {
        start("and CLASH neither with one another nor with any SHIP that stays", 4, 2);
        lay(1, 0, 1, 1, 0);
        lay(1, 0, 1, 2, 0);
        x.arrive(1, 0, 2);
        due("one is enough", x.waits(0, 7), 1);
        due("not where ship 1 stays", x.moves(0, 0), 0);
        due("not upon these", x.moves(0, 1), 3);
        x.depth(3, 0, 0);
        due("not upon these", x.moves(0, 1), 6);
        x.depth(2, 1, 0);
        due("the last one left", x.moves(0, 1), 7);
        x.depth(3, 1, 0);
        due("none is left", x.waits(0, 6), NONE);
    }

    private void movesLeastSetOfOne() {
        start("of those the one of least SETS: of one SHIP", 7, 2);
        pools(0, 4);
        lay(1, 0, 1, 5, 0);
        lay(1, 0, 1, 0, 0);
        x.arrive(5, 0, 2);
        due("ship 0, though the other's CELLS are less", x.waits(0, 7), 1);
        due("its own", x.moves(0, 0), 4);
        due("ship 0", x.moves(0, 1), 1);
    }

    private void movesLeastSetOfTwo() {
        start("of those the one of least SETS: 6 (1 and 2) is less than 9 (0 and 3)", 7, 2);
        pools(0, 4);
        lay(1, 0, 1, 0, 0);
        lay(1, 0, 1, 4, 0);
        lay(1, 0, 1, 5, 1);
        lay(1, 0, 1, 1, 1);
        x.arrive(5, 0, 2);
        due("which", x.waits(0, 7), 6);
        due("its own", x.moves(0, 0), 4);
        due("ship 1", x.moves(0, 1), 1);
        due("ship 2", x.moves(0, 2), 2);
        due("shift", x.shift(0), 2);
        due("ship 1", x.ship(1, 3), 1);
        due("ship 2", x.ship(2, 3), 2);
        due("behind the others", x.ship(4, 3), 4);
    }

    private void movesLeastRow() {
        start("of those the row of CELLS, of the one that WAITS first", 5, 2);
        // Columns 0 to 2 are deep; 3 is deep enough for the one that waits alone, 4 for none.
        for (int y = 0; y < 2; y++) {
            x.depth(3, y, 4);
            x.depth(4, y, 1);
        }
        lay(5, 0, 2, 1, 0);
        x.arrive(3, 0, 2);
        due("which", x.waits(0, 7), 1);
        due("from 0 on none is left for the other", x.moves(0, 0), 2);
        due("the one moved", x.moves(0, 1), 0);
        start("of those the row of CELLS, of the one that WAITS first", 4, 2);
        lay(1, 0, 2, 1, 0);
        x.arrive(1, 0, 2);
        due("which", x.waits(0, 7), 1);
        due("its own is the least, not that of the one moved", x.moves(0, 0), 0);
        due("the one moved", x.moves(0, 1), 2);
    }

    private void movesLeastRowOfThose() {
        start("then of these, rising, that is the least, as in FIRST.", 3, 2);
        lay(1, 0, 1, 1, 1);
        lay(1, 0, 1, 1, 0);
        x.arrive(1, 0, 2);
        due("both", x.waits(0, 7), 3);
        due("its own", x.moves(0, 0), 0);
        due("ship 0 has the lesser one", x.moves(0, 1), 2);
        due("ship 1", x.moves(0, 2), 5);
        x.depth(2, 1, 0);
        due("one CELL for two", x.waits(0, 6), NONE);
        x.undo(1);
        x.leave(1);
        lay(5, 0, 1, 1, 0);
        x.depth(2, 1, 4);
        due("ship 0 makes way for ship 1", x.moves(0, 1), 5);
        due("ship 1", x.moves(0, 2), 2);
    }

    private void movesWithFive() {
        start("MOVES with 5 SHIPS at ANCHOR", 7, 2);
        pools(5);
        layRow(3, 0, 0);
        lay(1, 0, 1, 5, 0);
        lay(1, 0, 1, 6, 1);
        x.arrive(5, 0, 2);
        due("the last two", x.waits(0, 7), 24);
        due("how many", x.waits(0, 6), 2);
        due("its own", x.moves(0, 0), 5);
        due("ship 3", x.moves(0, 1), 3);
        due("ship 4", x.moves(0, 2), 4);
        goOn("MOVES for SHIP k that WAITS are made. UNKNOWN, NOT: there are none, FULL.");
        due("a sixth", x.shift(0), FULL);
        due("ship 3 is where it was", x.ship(3, 3), 5);
        x.leave(0);
        due("room for it", x.shift(0), 2);
        due("which were 3 and 4", x.ship(2, 3) * 100 + x.ship(3, 3), 3);
    }

    private void threatByAnEdge() {
        start("THREAT, a WIND that is not FORESEEN: were it FORESEEN, too, another SHIP would be IN DANGER than are now.");
        due("no SHIP", x.told(9), 0);
        x.winds(1);
        lay(1, 1, 1, 0, 3);
        due("by WINDS 5, 6, 7 out of THE HARBOUR", x.told(9), 32 | 64 | 128);
        x.winds(1 | 64);
        due("IN DANGER already", x.told(6), 1);
        due("no further SHIP", x.told(9), 0);
        x.winds(255);
        due("all are FORESEEN", x.told(9), 0);
        x.leave(0);
        x.winds(2);
        lay(1, 2, 2, 2, 2);
        due("well by all WINDS", x.told(9), 0);
    }

    private void threatByAShoal() {
        start("THREAT by a CELL without the WATER");
        x.winds(1);
        lay(5, 1, 1, 2, 2);
        due("none", x.told(9), 0);
        x.depth(3, 2, 4);
        due("WIND 2", x.told(9), 4);
        x.tide(1);
        due("none by this TIDE", x.told(9), 0);
        x.tide(-1);
        due("IN DANGER already", x.told(9), 0);
    }

    private void threatByEachWind() {
        int[][] shoals = {{1, 2}, {2, 2}, {2, 1}, {2, 0}, {1, 0}, {0, 0}, {0, 1}, {0, 2}};
        for (int wind = 0; wind < 8; wind++) {
            start("THREATS (a SET of WINDS)", 3, 3);
            lay(1, 1, 1, 1, 1);
            x.winds(1 << (wind + 4) % 8);
            x.depth(shoals[wind][0], shoals[wind][1], 0);
            due("WIND " + wind, x.told(9), 1 << wind);
            due("asked only: FORESEEN stays", x.told(3), 1 << (wind + 4) % 8);
            x.winds(255 & ~(1 << wind));
            due("WIND " + wind + " alone is left", x.told(9), 1 << wind);
            x.winds(255);
            due("none is left", x.told(9), 0);
        }
    }

    private void threatByAClash() {
        start("THREAT by a CLASH");
        x.winds(1);
        lay(1, 0, 1, 2, 2);
        lay(1, 1, 1, 2, 3);
        lay(1, 0, 1, 3, 3);
        due("WINDS 4 and 2", x.told(9), 16 | 4);
        x.winds(1 | 4);
        due("WIND 4: 0 besides 1", x.told(9), 16);
        due("1 and 2 now", x.told(6), 6);
    }

    private void threatToAnother() {
        start("THREAT: another SHIP than are now");
        x.winds(1);
        lay(1, 1, 1, 5, 2);
        lay(1, 1, 1, 0, 2);
        due("both edges", x.told(9), 2 | 4 | 8 | 32 | 64 | 128);
        x.depth(5, 3, 0);
        due("ship 0 IN DANGER", x.told(6), 1);
        due("the edge of ship 1", x.told(9), 32 | 64 | 128);
        x.depth(0, 3, 0);
        due("both IN DANGER", x.told(6), 3);
        due("no other", x.told(9), 0);
    }
}
