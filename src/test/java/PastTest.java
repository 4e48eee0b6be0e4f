import java.util.function.ToIntFunction;

/** The sentences of section 3 of 'Terms' that name a boundary (book, draws, undone, images), each by a run of its own. */
public final class PastTest extends Sheet {
    public static void main(String[] args) {
        PastTest t = new PastTest();
        t.bookOf20();
        t.firstThatIsOtherwise();
        t.wrongIfTheShipIsNoMore();
        t.bookOfAnyNumber();
        t.bookGoesByNumbers();
        t.seedAtFirst();
        t.seedWrapsAround();
        t.drawsOfOtherHarbours();
        t.drawsOneByOne();
        t.deedsAreCounted();
        t.deedsThatChangeNothing();
        t.noDeeds();
        t.sixteenAreKept();
        t.driftFillsThem();
        t.sinceTheImage();
        t.undoneOneByOne();
        t.seedAndBookStay();
        t.imagesKeepSection1();
        t.imagesKeepTheSeed();
        t.imagesAreTwo();
        t.imagesStayAsTheyAre();
        t.end();
    }

    private void bookOf20() {
        start("THE BOOK (20 at most)");
        due("at first", x.told(11), 0);
        due("nothing in it is WRONG", x.told(12), NONE);
        lay(1, 0, 1, 2, 0);
        for (int i = 0; i < 19; i++) {
            x.write(0, 2);
        }
        due("a 20th", x.write(0, 3), 20);
        due("the last is WRONG", x.told(12), 19);
        due("a 21st", x.write(0, 3), FULL);
        due("20 still", x.told(11), 20);
        due("tear", x.tear(), 20);
        due("room again", x.write(0, 2), 1);
        due("none is WRONG", x.told(12), NONE);
    }

    private void firstThatIsOtherwise() {
        start("WRONG: the first that is otherwise now", 3, 2);
        lay(1, 0, 1, 1, 0);
        lay(1, 0, 1, 2, 1);
        x.write(1, 5);
        x.write(0, 1);
        x.write(0, 2);
        x.write(1, 4);
        due("the first of two", x.told(12), 2);
        x.arrive(1, 0, 2);
        due("ship 0 is moved to", x.moves(0, 1), 2);
        x.shift(0);
        due("what was right is otherwise", x.told(12), 1);
        x.undo(1);
        due("as it was", x.told(12), 2);
    }

    private void wrongIfTheShipIsNoMore() {
        start("WRONG: the first that is otherwise now (a SHIP that there is no more: it is, too); NONE.");
        lay(1, 0, 1, 0, 0);
        lay(1, 0, 1, 1, 0);
        x.write(0, 0);
        x.write(1, 1);
        due("both as written", x.told(12), NONE);
        x.leave(1);
        due("the last is no more", x.told(12), 1);
        x.leave(0);
        due("none is there", x.told(12), 0);
        x.undo(2);
        due("both there again", x.told(12), NONE);
        x.harbour(6, 6);
        due("no SHIPS any more", x.told(12), 0);
    }

    private void bookOfAnyNumber() {
        int[] numbers = {-1, 36, MIN, MAX, UNKNOWN, OUTSIDE, NOT, FULL};
        for (int v : numbers) {
            start("An entry behind THE BOOK (the CELL of a SHIP at ANCHOR, any number)");
            lay(1, 0, 1, 0, 0);
            due("any number", x.write(0, v), 1);
            due("it is WRONG", x.told(12), 0);
            x.leave(0);
            due("it is WRONG of a SHIP that there is no more", x.told(12), 0);
        }
    }

    private void bookGoesByNumbers() {
        start("THE BOOK tells the CELL of the ANCHOR of a SHIP at ANCHOR: by its number");
        layRow(3, 0, 0);
        x.write(1, 1);
        x.leave(0);
        due("number 1 is another one now", x.told(12), 0);
        x.tear();
        x.write(1, 2);
        due("as written", x.told(12), NONE);
        x.leave(1);
        lay(1, 0, 1, 2, 0);
        due("another one in the same CELL", x.told(12), NONE);
    }

    private void seedAtFirst() {
        start("BY DRAWS: THE SEED (0 at first)");
        due("at first", x.told(14), 0);
        due("seed", x.seed(0), 0);
        due("drift", x.drift(1), 0);
        due("two DRAWS on", x.told(14), 1406932606);
        due("a DRAW of 36: 0; of 10: 8", x.cell(0, 0, 0), 8);
    }

    // 2147483647 becomes 1043980748, then 288979989; by 65536 that is 15929 and 4409: CELL 17 becomes 9.
    private void seedWrapsAround() {
        start("each DRAW it becomes it times 1103515245 and 12345, left over by 2 to the 31");
        x.seed(MAX);
        due("drift", x.drift(1), 0);
        due("THE SEED", x.told(14), 288979989);
        due("DEPTH of 17", x.cell(5, 2, 0), 9);
        due("drift", x.drift(3), 0);
        due("THE SEED", x.told(14), 2101342199);
        due("DEPTH of 34", x.cell(4, 5, 0), 8);
        due("DEPTH of 1", x.cell(1, 0, 0), 6);
        due("DEPTH of 8", x.cell(2, 1, 0), 3);
        int sum = 0;
        for (int i = 0; i < 36; i++) {
            sum += x.cell(i % 6, i / 6, 0);
        }
        due("all others are as they were", sum, 32 * 5 + 9 + 8 + 6 + 3);
    }

    private void drawsOfOtherHarbours() {
        start("the DRAW of n is it / 65536, left over by n: a DRAW of W times H, of 10", 2, 2);
        x.drift(4);
        due("DEPTH of 0: 8, then 7", x.cell(0, 0, 0), 7);
        due("DEPTH of 1", x.cell(1, 0, 0), 1);
        due("DEPTH of 2", x.cell(0, 1, 0), 7);
        due("DEPTH of 3", x.cell(1, 1, 0), 5);
        x.harbour(7, 7);
        x.seed(0);
        x.drift(4);
        due("DEPTH of 0", x.cell(0, 0, 0), 8);
        due("DEPTH of 41", x.cell(6, 5, 0), 7);
        due("DEPTH of 19", x.cell(5, 2, 0), 7);
        due("DEPTH of 22", x.cell(1, 3, 0), 1);
    }

    private void drawsOneByOne() {
        start("n times: a DRAW of W times H, of 10: DEPTH of this CELL.", 7, 7);
        x.seed(77);
        x.drift(12);
        SwungShips atOnce = x;
        start("n times: a DRAW of W times H, of 10: DEPTH of this CELL.", 7, 7);
        x.seed(77);
        for (int i = 0; i < 12; i++) {
            x.drift(1);
        }
        due("THE SEED", atOnce.told(14), x.told(14));
        for (int i = 0; i < 49; i++) {
            due("DEPTH of " + i, atOnce.cell(i % 7, i / 7, 0), x.cell(i % 7, i / 7, 0));
        }
    }

    /** Two that wait with places for both, one at anchor. */
    private void startWithShips(String text) {
        start(text);
        lay(1, 0, 1, 3, 3);
        x.arrive(2, 1, 1);
        x.arrive(3, 0, 2);
    }

    private void deed(String name, int count, ToIntFunction<SwungShips> call) {
        startWithShips("UNDONE: the latest deeds: " + name);
        int before = x.told(13);
        due("is not refused", call.applyAsInt(x) < -1000000000 ? 0 : 1, 1);
        due("can be undone", x.told(13), before + count);
        due("undone", x.undo(count), before);
    }

    private void deedsAreCounted() {
        deed("harbour()", 1, s -> s.harbour(4, 4));
        deed("depth()", 1, s -> s.depth(0, 0, 1));
        deed("tide()", 1, s -> s.tide(1));
        deed("winds()", 1, s -> s.winds(1));
        deed("arrive()", 1, s -> s.arrive(1, 0, 1));
        deed("anchor()", 1, s -> s.anchor(1, 0, 0));
        deed("fit()", 1, s -> s.fit(1));
        deed("fitAll()", 1, s -> s.fitAll());
        deed("shift()", 1, s -> s.shift(1));
        deed("leave()", 1, s -> s.leave(0));
        deed("turnAway()", 1, s -> s.turnAway(0));
        deed("each time BY DRAWS, 1", 1, s -> s.drift(1));
        deed("each time BY DRAWS, 12", 12, s -> s.drift(12));
    }

    private void deedsThatChangeNothing() {
        start("UNDONE: the latest deeds (not refused, be it that they change nothing)");
        due("harbour()", x.harbour(6, 6), 0);
        due("1", x.told(13), 1);
        due("depth()", x.depth(0, 0, 5), 5);
        due("2", x.told(13), 2);
        due("tide()", x.tide(0), 0);
        due("3", x.told(13), 3);
        due("winds()", x.winds(255), 255);
        due("4", x.told(13), 4);
        due("undone", x.undo(4), 0);
    }

    private void noDeeds() {
        startWithShips("UNDONE: no other calls");
        int deeds = x.told(13);
        x.write(0, 1);
        due("write()", x.told(13), deeds);
        x.tear();
        due("tear()", x.told(13), deeds);
        x.seed(5);
        due("seed()", x.told(13), deeds);
        due("undo() itself", x.undo(1), deeds - 1);
        due("what was undone is not undone", x.undo(1), deeds - 2);
    }

    private void sixteenAreKept() {
        start("(16 at most are kept)");
        for (int i = 0; i < 16; i++) {
            x.depth(0, 0, i % 10);
            due("deeds", x.told(13), i + 1);
        }
        due("as ahead of all", x.undo(16), 0);
        due("DEPTH", x.cell(0, 0, 0), 5);
        for (int i = 0; i < 17; i++) {
            x.depth(0, 0, i % 10);
        }
        due("17: 16 are kept", x.told(13), 16);
        due("17 is too large", x.undo(17), OUTSIDE);
        due("as behind the first", x.undo(16), 0);
        due("DEPTH", x.cell(0, 0, 0), 0);
        due("the first is not kept", x.undo(1), NOT);
    }

    private void driftFillsThem() {
        start("(16 at most are kept): each time BY DRAWS");
        x.tide(1);
        x.drift(12);
        due("deeds", x.told(13), 13);
        x.drift(4);
        due("deeds", x.told(13), 16);
        due("the TIDE is out of reach", x.undo(16), 0);
        due("TIDE", x.told(2), 1);
        for (int i = 0; i < 36; i++) {
            due("DEPTH", x.cell(i % 6, i / 6, 0), 5);
        }
    }

    private void sinceTheImage() {
        start("UNDONE: the latest deeds since the IMAGE");
        x.tide(1);
        x.tide(2);
        x.keep(0);
        due("keep()", x.told(13), 0);
        due("not so many", x.undo(1), NOT);
        x.tide(3);
        due("one since", x.told(13), 1);
        due("not so many", x.undo(2), NOT);
        due("undone", x.undo(1), 0);
        due("TIDE", x.told(2), 2);
        x.tide(-1);
        x.goBack(0);
        due("goBack()", x.told(13), 0);
        due("not so many", x.undo(1), NOT);
        x.tide(-2);
        due("undone", x.undo(1), 0);
        due("TIDE", x.told(2), 2);
    }

    private void undoneOneByOne() {
        start("all of section 1 is as ahead of them");
        x.harbour(4, 3);
        x.winds(1);
        x.tide(2);
        x.arrive(7, 1, 2);
        x.fit(0);
        x.depth(3, 2, 0);
        x.harbour(7, 7);
        due("harbour()", x.undo(1), 6);
        due("W", x.told(0), 4);
        due("H", x.told(1), 3);
        due("at ANCHOR", x.ship(0, 3), 0);
        due("DRAUGHT", x.ship(0, 0), 7);
        due("CHAIN", x.ship(0, 1), 1);
        due("SIDE", x.ship(0, 2), 2);
        due("DEPTH", x.cell(3, 2, 0), 0);
        due("depth()", x.undo(1), 5);
        due("DEPTH", x.cell(3, 2, 0), 5);
        due("fit()", x.undo(1), 4);
        due("none at ANCHOR", x.told(4), 0);
        due("it WAITS", x.waits(0, 0) * 100 + x.waits(0, 1) * 10 + x.waits(0, 2), 712);
        due("arrive()", x.undo(1), 3);
        due("none WAITS", x.told(5), 0);
        due("tide()", x.undo(1), 2);
        due("TIDE", x.told(2), 0);
        due("winds()", x.undo(1), 1);
        due("FORESEEN", x.told(3), 255);
        due("harbour()", x.undo(1), 0);
        due("W", x.told(0), 6);
        due("H", x.told(1), 6);
    }

    private void seedAndBookStay() {
        start("THE SEED, THE BOOK stay.");
        x.drift(2);
        lay(1, 0, 1, 3, 3);
        x.write(0, 21);
        x.write(0, 22);
        due("undone", x.undo(4), 0);
        due("THE SEED", x.told(14), 1449466924);
        due("THE BOOK", x.told(11), 2);
        due("the SHIP is no more", x.told(12), 0);
        x.seed(9);
        x.tide(1);
        x.seed(10);
        x.tear();
        due("undone", x.undo(1), 0);
        due("THE SEED", x.told(14), 10);
        due("THE BOOK", x.told(11), 0);
    }

    private void imagesKeepSection1() {
        start("IMAGES 0, 1 keep all of section 1");
        for (int i = 0; i < 2; i++) {
            x.harbour(7, 2);
            x.depth(6, 1, 9);
            x.tide(-1);
            x.winds(68);
            lay(4, 2, 2, 2, 0);
            x.arrive(8, 1, 2);
            due("keep", x.keep(i), 1);
            x.harbour(2, 7);
            x.tide(3);
            x.winds(255);
            x.arrive(1, 0, 1);
            due("goBack", x.goBack(i), 1);
            due("W, H", x.told(0) * 10 + x.told(1), 72);
            due("DEPTHS", x.cell(6, 1, 0) * 10 + x.cell(5, 1, 0), 95);
            due("TIDE", x.told(2), -1);
            due("FORESEEN", x.told(3), 68);
            due("at ANCHOR", x.told(4), 1);
            due("which", x.ship(0, 0) * 1000 + x.ship(0, 1) * 100 + x.ship(0, 2) * 10 + x.ship(0, 3), 4222);
            due("WAIT", x.told(5), 1);
            due("which", x.waits(0, 0) * 100 + x.waits(0, 1) * 10 + x.waits(0, 2), 812);
            due("nothing can be undone", x.told(13), 0);
            x.tide(0);
        }
    }

    private void imagesKeepTheSeed() {
        start("IMAGES keep THE SEED, not THE BOOK");
        lay(1, 0, 1, 0, 0);
        x.seed(MAX);
        x.write(0, 0);
        x.keep(0);
        x.seed(1);
        x.write(0, 1);
        x.goBack(0);
        due("THE SEED", x.told(14), MAX);
        due("THE BOOK stays", x.told(11), 2);
        due("its second entry", x.told(12), 1);
        x.tear();
        x.goBack(0);
        due("THE BOOK is torn", x.told(11), 0);
    }

    private void imagesAreTwo() {
        start("IMAGES 0, 1");
        due("none kept", x.goBack(0), NOT);
        due("none kept", x.goBack(1), NOT);
        due("no 2", x.keep(2), UNKNOWN);
        due("no -1", x.keep(-1), UNKNOWN);
        x.tide(1);
        x.keep(1);
        due("0 is not kept by 1", x.goBack(0), NOT);
        x.tide(2);
        x.keep(0);
        x.goBack(1);
        due("1", x.told(2), 1);
        x.goBack(0);
        due("0", x.told(2), 2);
        x.tide(3);
        x.keep(1);
        x.goBack(0);
        due("0 is as it was", x.told(2), 2);
        x.goBack(1);
        due("1 is another", x.told(2), 3);
    }

    private void imagesStayAsTheyAre() {
        start("What is so becomes IMAGE i: the IMAGE stays");
        lay(1, 0, 1, 0, 0);
        x.keep(0);
        for (int i = 0; i < 3; i++) {
            x.depth(1, 1, 1);
            x.leave(0);
            x.arrive(1, 0, 1);
            x.seed(i + 1);
            due("goBack", x.goBack(0), 1);
            due("DEPTH", x.cell(1, 1, 0), 5);
            due("at ANCHOR", x.told(4), 1);
            due("none WAITS", x.told(5), 0);
            due("THE SEED", x.told(14), 0);
        }
    }
}
