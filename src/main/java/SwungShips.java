/**
 * Ships at anchor that swing with the wind, as ../shared/DOC.md tells it.
 *
 * Inside, a place in the harbour is a SPOT, y times 8 and x: sets of spots are bits of a long, and
 * spots rise as the document's cell numbers do. All rows are made once, with the object.
 */
public final class SwungShips {
    public static final int NONE = -1, UNKNOWN = -1000000001, OUTSIDE = -1000000002, NOT = -1000000003, FULL = -1000000004;

    private static final int SHORTEST_EDGE = 2, LONGEST_EDGE = 7, FIRST_EDGE = 6;
    private static final int DEEPEST = 9, FIRST_DEPTH = 5, HIGHEST_TIDE = 3;
    private static final int WINDS = 8, ALL_WINDS = 255;
    private static final int DEEPEST_DRAUGHT = 9, LONGEST_CHAIN = 2, WIDEST_SIDE = 2;
    private static final int MOST_ANCHORED = 5, MOST_WAITING = 3, MOST_MOVED = 2;
    private static final int MOST_UNDONE = 16, MOST_ENTRIES = 20, MOST_DRAWS = 12, IMAGES = 2;
    private static final int NO_LACK = 100;
    private static final int GREATEST = 2147483647;

    // Ships at anchor have the slots 0 to 4, ships that wait the slots behind.
    private static final int SLOTS = MOST_ANCHORED + MOST_WAITING;

    private static final int STRIDE = 8, SPOTS = STRIDE * STRIDE, LAST_COLUMN = STRIDE - 1;
    private static final long ONE_ROW = 255L, FIRST_COLUMN = 0x0101010101010101L;

    // Two ships clash only if their anchors are 3 columns and 3 rows apart at most: chains differ
    // by 2 at most, and a side reaches 1 further.
    private static final int FARTHEST = 3;

    private static final int[] WIND_X = {0, 1, 1, 1, 0, -1, -1, -1};
    private static final int[] WIND_Y = {1, 1, 0, -1, -1, -1, 0, 1};

    private final Harbour now;
    private final History history;
    private final Search search;
    private final Book book;
    private final Image[] images;
    private int seedNow;

    public SwungShips() {
        now = new Harbour();
        history = new History();
        search = new Search();
        book = new Book();
        images = new Image[IMAGES];
        for (int i = 0; i < IMAGES; i++) {
            images[i] = new Image();
        }
        seedNow = 0;
    }

    // ---- what is so

    public int told(int what) {
        switch (what) {
            case 0: return now.width;
            case 1: return now.height;
            case 2: return now.tideNow;
            case 3: return now.foreseen;
            case 4: return now.anchored;
            case 5: return now.waiting;
            case 6: return Swing.inDanger(now, now.foreseen);
            case 7: return Swing.pairsThatClash(now);
            case 8: return search.settlesAll(now) ? 1 : 0;
            case 9: return Swing.threats(now);
            case 10: return Long.bitCount(Swing.sweptByAll(now));
            case 11: return book.entries;
            case 12: return book.firstWrong(now);
            case 13: return history.kept;
            case 14: return seedNow;
            default: return OUTSIDE;
        }
    }

    public int cell(int x, int y, int what) {
        if (!now.hasCell(x, y)) {
            return UNKNOWN;
        }
        switch (what) {
            case 0: return now.depthAt(x, y);
            case 1: return now.water(x, y);
            case 2: return Swing.sweepersOf(now, spotAt(x, y));
            case 3: return search.waitersFor(now, spotAt(x, y));
            default: return OUTSIDE;
        }
    }

    public int ship(int a, int what) {
        if (!now.hasAnchored(a)) {
            return UNKNOWN;
        }
        switch (what) {
            case 0: return now.draughts[a];
            case 1: return now.chains[a];
            case 2: return now.sides[a];
            case 3: return now.cellAt(now.xs[a], now.ys[a]);
            case 4: return Long.bitCount(Swing.sweptBy(now, a));
            case 5: return Swing.clashesOf(now, a, now.foreseen);
            case 6: return Swing.liesWell(now, a, now.foreseen) ? 1 : 0;
            case 7: return Swing.leastWater(now, a, now.foreseen) - now.draughts[a] + NO_LACK;
            default: return OUTSIDE;
        }
    }

    public int waits(int k, int what) {
        if (!now.hasWaiting(k)) {
            return UNKNOWN;
        }
        int slot = MOST_ANCHORED + k;
        switch (what) {
            case 0: return now.draughts[slot];
            case 1: return now.chains[slot];
            case 2: return now.sides[slot];
            case 3: return Long.bitCount(search.placesFor(now, k));
            case 4: return cellOfSpot(firstOf(search.placesFor(now, k)));
            case 5: return search.settlesAll(now) ? cellOfSpot(search.chosen[k]) : NONE;
            case 6: return search.settlesByMoves(now, k) ? Integer.bitCount(search.moved) : NONE;
            case 7: return search.settlesByMoves(now, k) ? search.moved : NONE;
            default: return OUTSIDE;
        }
    }

    public int moves(int k, int i) {
        if (!now.hasWaiting(k)) {
            return UNKNOWN;
        }
        if (i < 0 || i > MOST_MOVED) {
            return OUTSIDE;
        }
        if (!search.settlesByMoves(now, k) || i > Integer.bitCount(search.moved)) {
            return NONE;
        }
        return cellOfSpot(search.chosen[i]);
    }

    public int lies(int a, int wind, int x, int y) {
        if (!now.hasAnchored(a) || !now.hasCell(x, y)) {
            return UNKNOWN;
        }
        if (wind < 0 || wind >= WINDS) {
            return OUTSIDE;
        }
        return Swing.liesOn(now, a, wind, x, y) ? 1 : 0;
    }

    // ---- deeds

    public int harbour(int w, int h) {
        if (isOut(w, SHORTEST_EDGE, LONGEST_EDGE) || isOut(h, SHORTEST_EDGE, LONGEST_EDGE)) {
            return OUTSIDE;
        }
        int before = now.anchored;
        history.remember(now);
        now.layOut(w, h);
        return before;
    }

    public int depth(int x, int y, int v) {
        if (!now.hasCell(x, y)) {
            return UNKNOWN;
        }
        if (isOut(v, 0, DEEPEST)) {
            return OUTSIDE;
        }
        int before = now.depthAt(x, y);
        history.remember(now);
        now.changeDepth(now.cellAt(x, y), v);
        return before;
    }

    public int tide(int v) {
        if (isOut(v, -HIGHEST_TIDE, HIGHEST_TIDE)) {
            return OUTSIDE;
        }
        int before = now.tideNow;
        history.remember(now);
        now.tideNow = v;
        return before;
    }

    public int winds(int set) {
        if (isOut(set, 1, ALL_WINDS)) {
            return OUTSIDE;
        }
        int before = now.foreseen;
        history.remember(now);
        now.foreseen = set;
        return before;
    }

    public int arrive(int draught, int chain, int side) {
        if (isOut(draught, 1, DEEPEST_DRAUGHT) || isOut(chain, 0, LONGEST_CHAIN) || isOut(side, 1, WIDEST_SIDE)) {
            return OUTSIDE;
        }
        if (now.waiting >= MOST_WAITING) {
            return FULL;
        }
        history.remember(now);
        now.letWait(draught, chain, side);
        return now.waiting - 1;
    }

    public int anchor(int k, int x, int y) {
        if (!now.hasWaiting(k) || !now.hasCell(x, y)) {
            return UNKNOWN;
        }
        int spot = spotAt(x, y);
        if (!holds(search.placesFor(now, k), spot)) {
            return NOT;
        }
        if (now.anchored >= MOST_ANCHORED) {
            return FULL;
        }
        history.remember(now);
        now.bringToAnchor(k, spot);
        return now.anchored - 1;
    }

    public int fit(int k) {
        if (!now.hasWaiting(k)) {
            return UNKNOWN;
        }
        int spot = firstOf(search.placesFor(now, k));
        if (spot == NONE) {
            return NOT;
        }
        if (now.anchored >= MOST_ANCHORED) {
            return FULL;
        }
        history.remember(now);
        now.bringToAnchor(k, spot);
        return cellOfSpot(spot);
    }

    public int fitAll() {
        int count = now.waiting;
        if (count == 0 || !search.settlesAll(now)) {
            return NOT;
        }
        if (now.anchored + count > MOST_ANCHORED) {
            return FULL;
        }
        history.remember(now);
        for (int k = 0; k < count; k++) {
            // Always the first: those behind have one number less each time.
            now.bringToAnchor(0, search.chosen[k]);
        }
        return count;
    }

    public int shift(int k) {
        if (!now.hasWaiting(k)) {
            return UNKNOWN;
        }
        if (!search.settlesByMoves(now, k)) {
            return NOT;
        }
        if (now.anchored >= MOST_ANCHORED) {
            return FULL;
        }
        history.remember(now);
        for (int i = 1; i < search.length; i++) {
            now.putAt(search.row[i], search.chosen[i]);
        }
        now.bringToAnchor(k, search.chosen[0]);
        return Integer.bitCount(search.moved);
    }

    public int leave(int a) {
        if (!now.hasAnchored(a)) {
            return UNKNOWN;
        }
        history.remember(now);
        now.dropAnchored(a);
        return now.anchored;
    }

    public int turnAway(int k) {
        if (!now.hasWaiting(k)) {
            return UNKNOWN;
        }
        history.remember(now);
        now.dropWaiting(k);
        return now.waiting;
    }

    public int drift(int n) {
        if (isOut(n, 1, MOST_DRAWS)) {
            return OUTSIDE;
        }
        for (int i = 0; i < n; i++) {
            history.remember(now);
            int drawn = draw(now.width * now.height);
            now.changeDepth(drawn, draw(DEEPEST + 1));
        }
        return Swing.inDanger(now, now.foreseen);
    }

    public int undo(int n) {
        if (isOut(n, 1, MOST_UNDONE)) {
            return OUTSIDE;
        }
        if (n > history.kept) {
            return NOT;
        }
        history.bringBack(n, now);
        return history.kept;
    }

    // ---- the book

    public int write(int a, int cell) {
        if (!now.hasAnchored(a)) {
            return UNKNOWN;
        }
        if (book.entries >= MOST_ENTRIES) {
            return FULL;
        }
        book.add(a, cell);
        return book.entries;
    }

    public int tear() {
        int before = book.entries;
        book.entries = 0;
        return before;
    }

    // ---- images

    public int seed(int v) {
        if (v < 0) {
            return OUTSIDE;
        }
        int before = seedNow;
        seedNow = v;
        return before;
    }

    public int keep(int i) {
        if (isOut(i, 0, IMAGES - 1)) {
            return UNKNOWN;
        }
        images[i].take(now, seedNow);
        history.forget();
        return 1;
    }

    public int goBack(int i) {
        if (isOut(i, 0, IMAGES - 1)) {
            return UNKNOWN;
        }
        if (!images[i].taken) {
            return NOT;
        }
        now.copyFrom(images[i].shown);
        seedNow = images[i].seedThen;
        history.forget();
        return 1;
    }

    // ---- what all of these use

    private static boolean isOut(int v, int least, int most) {
        return v < least || v > most;
    }

    private static int spotAt(int x, int y) {
        return y * STRIDE + x;
    }

    private static int columnOf(int spot) {
        return spot & LAST_COLUMN;
    }

    private static int lineOf(int spot) {
        return spot / STRIDE;
    }

    private static boolean holds(long spots, int spot) {
        return ((spots >>> spot) & 1L) != 0;
    }

    private static int firstOf(long spots) {
        for (int spot = 0; spot < SPOTS; spot++) {
            if (holds(spots, spot)) {
                return spot;
            }
        }
        return NONE;
    }

    private int cellOfSpot(int spot) {
        return spot == NONE ? NONE : now.cellAt(columnOf(spot), lineOf(spot));
    }

    // Wrapping int arithmetic is right here: only the 31 lowest bits are kept.
    private int draw(int n) {
        seedNow = (seedNow * 1103515245 + 12345) & GREATEST;
        return n > 0 ? (seedNow / 65536) % n : 0;
    }

    /** All of section 1: what an image keeps, and what is as before when a deed is undone. */
    private static final class Harbour {
        int width, height, tideNow, foreseen, anchored, waiting;
        final int[] depths, draughts, chains, sides, xs, ys;

        Harbour() {
            depths = new int[LONGEST_EDGE * LONGEST_EDGE];
            draughts = new int[SLOTS];
            chains = new int[SLOTS];
            sides = new int[SLOTS];
            xs = new int[SLOTS];
            ys = new int[SLOTS];
            tideNow = 0;
            foreseen = ALL_WINDS;
            layOut(FIRST_EDGE, FIRST_EDGE);
        }

        void layOut(int w, int h) {
            width = w;
            height = h;
            anchored = 0;
            waiting = 0;
            for (int i = 0; i < depths.length; i++) {
                depths[i] = FIRST_DEPTH;
            }
        }

        void copyFrom(Harbour other) {
            width = other.width;
            height = other.height;
            tideNow = other.tideNow;
            foreseen = other.foreseen;
            anchored = other.anchored;
            waiting = other.waiting;
            System.arraycopy(other.depths, 0, depths, 0, depths.length);
            System.arraycopy(other.draughts, 0, draughts, 0, SLOTS);
            System.arraycopy(other.chains, 0, chains, 0, SLOTS);
            System.arraycopy(other.sides, 0, sides, 0, SLOTS);
            System.arraycopy(other.xs, 0, xs, 0, SLOTS);
            System.arraycopy(other.ys, 0, ys, 0, SLOTS);
        }

        boolean hasCell(int x, int y) {
            return x >= 0 && x < width && y >= 0 && y < height;
        }

        boolean hasAnchored(int a) {
            return a >= 0 && a < anchored;
        }

        boolean hasWaiting(int k) {
            return k >= 0 && k < waiting;
        }

        boolean hasSlot(int slot) {
            return hasAnchored(slot) || hasWaiting(slot - MOST_ANCHORED);
        }

        int cellAt(int x, int y) {
            return y * width + x;
        }

        int depthAt(int x, int y) {
            return hasCell(x, y) ? depths[cellAt(x, y)] : 0;
        }

        int water(int x, int y) {
            return hasCell(x, y) ? Math.max(0, depths[cellAt(x, y)] + tideNow) : 0;
        }

        void changeDepth(int number, int v) {
            if (number >= 0 && number < depths.length) {
                depths[number] = v;
            }
        }

        void letWait(int draught, int chain, int side) {
            if (waiting >= MOST_WAITING) {
                return;
            }
            int slot = MOST_ANCHORED + waiting;
            draughts[slot] = draught;
            chains[slot] = chain;
            sides[slot] = side;
            waiting++;
        }

        void putAt(int slot, int spot) {
            if (slot >= 0 && slot < SLOTS) {
                xs[slot] = columnOf(spot);
                ys[slot] = lineOf(spot);
            }
        }

        void bringToAnchor(int k, int spot) {
            if (!hasWaiting(k) || anchored >= MOST_ANCHORED) {
                return;
            }
            copySlot(MOST_ANCHORED + k, anchored);
            putAt(anchored, spot);
            anchored++;
            dropWaiting(k);
        }

        void dropAnchored(int a) {
            if (!hasAnchored(a)) {
                return;
            }
            for (int slot = a; slot + 1 < anchored; slot++) {
                copySlot(slot + 1, slot);
            }
            anchored--;
        }

        void dropWaiting(int k) {
            if (!hasWaiting(k)) {
                return;
            }
            for (int slot = MOST_ANCHORED + k; slot + 1 < MOST_ANCHORED + waiting; slot++) {
                copySlot(slot + 1, slot);
            }
            waiting--;
        }

        private void copySlot(int from, int to) {
            draughts[to] = draughts[from];
            chains[to] = chains[from];
            sides[to] = sides[from];
            xs[to] = xs[from];
            ys[to] = ys[from];
        }
    }

    /** How the ships at anchor lie by the winds. */
    private static final class Swing {
        static boolean blows(int winds, int wind) {
            return ((winds >> wind) & 1) != 0;
        }

        static int firstX(Harbour h, int slot, int wind) {
            return h.xs[slot] + h.chains[slot] * WIND_X[wind];
        }

        static int firstY(Harbour h, int slot, int wind) {
            return h.ys[slot] + h.chains[slot] * WIND_Y[wind];
        }

        static boolean liesOn(Harbour h, int a, int wind, int x, int y) {
            int dx = x - firstX(h, a, wind);
            int dy = y - firstY(h, a, wind);
            return dx >= 0 && dx < h.sides[a] && dy >= 0 && dy < h.sides[a];
        }

        static long sweptBy(Harbour h, int a) {
            long swept = 0;
            for (int wind = 0; wind < WINDS; wind++) {
                if (blows(h.foreseen, wind)) {
                    swept |= lainOn(h, a, wind);
                }
            }
            return swept;
        }

        private static long lainOn(Harbour h, int a, int wind) {
            long spots = 0;
            int x0 = firstX(h, a, wind);
            int y0 = firstY(h, a, wind);
            for (int y = y0; y < y0 + h.sides[a]; y++) {
                for (int x = x0; x < x0 + h.sides[a]; x++) {
                    if (h.hasCell(x, y)) {
                        spots |= 1L << spotAt(x, y);
                    }
                }
            }
            return spots;
        }

        static long sweptByAll(Harbour h) {
            long swept = 0;
            for (int a = 0; a < h.anchored; a++) {
                swept |= sweptBy(h, a);
            }
            return swept;
        }

        static int sweepersOf(Harbour h, int spot) {
            int set = 0;
            for (int a = 0; a < h.anchored; a++) {
                if (holds(sweptBy(h, a), spot)) {
                    set |= 1 << a;
                }
            }
            return set;
        }

        static int leastWater(Harbour h, int a, int winds) {
            int least = GREATEST;
            for (int wind = 0; wind < WINDS; wind++) {
                if (blows(winds, wind)) {
                    least = Math.min(least, leastWaterBy(h, a, wind));
                }
            }
            return least;
        }

        private static int leastWaterBy(Harbour h, int a, int wind) {
            int least = GREATEST;
            int x0 = firstX(h, a, wind);
            int y0 = firstY(h, a, wind);
            for (int y = y0; y < y0 + h.sides[a]; y++) {
                for (int x = x0; x < x0 + h.sides[a]; x++) {
                    least = Math.min(least, h.water(x, y));
                }
            }
            return least;
        }

        // Outside the harbour there is no water and a draught is 1 at least, so that this is all
        // that MAY LIE asks.
        static boolean liesWell(Harbour h, int a, int winds) {
            return leastWater(h, a, winds) >= h.draughts[a];
        }

        static boolean clash(Harbour h, int a, int b, int winds) {
            for (int wind = 0; wind < WINDS; wind++) {
                if (blows(winds, wind) && clashBy(h, a, b, wind)) {
                    return true;
                }
            }
            return false;
        }

        private static boolean clashBy(Harbour h, int a, int b, int wind) {
            int dx = firstX(h, b, wind) - firstX(h, a, wind);
            int dy = firstY(h, b, wind) - firstY(h, a, wind);
            return dx < h.sides[a] && -dx < h.sides[b] && dy < h.sides[a] && -dy < h.sides[b];
        }

        static int clashesOf(Harbour h, int a, int winds) {
            int set = 0;
            for (int b = 0; b < h.anchored; b++) {
                if (b != a && clash(h, a, b, winds)) {
                    set |= 1 << b;
                }
            }
            return set;
        }

        static int pairsThatClash(Harbour h) {
            int twice = 0;
            for (int a = 0; a < h.anchored; a++) {
                twice += Integer.bitCount(clashesOf(h, a, h.foreseen));
            }
            return twice / 2;
        }

        static int inDanger(Harbour h, int winds) {
            int set = 0;
            for (int a = 0; a < h.anchored; a++) {
                if (!liesWell(h, a, winds) || clashesOf(h, a, winds) != 0) {
                    set |= 1 << a;
                }
            }
            return set;
        }

        static int threats(Harbour h) {
            int endangered = inDanger(h, h.foreseen);
            int set = 0;
            for (int wind = 0; wind < WINDS; wind++) {
                int more = h.foreseen | (1 << wind);
                if (more != h.foreseen && inDanger(h, more) != endangered) {
                    set |= 1 << wind;
                }
            }
            return set;
        }
    }

    /** Finds spots for ships: the least row of spots for a row of ships, beside those that stay. */
    private static final class Search {
        private static final int ROW = 3;

        // What was found last: the ships of the row, how many, their spots, the SET moved.
        final int[] row, chosen;
        int length, moved;

        // By slot: where the ship may lie. By two slots: where the second clashes with the first,
        // were the first at column and row FARTHEST.
        private final long[] good, bad;
        // By level and place in the row: spots that the ships settled ahead of the level leave.
        private final long[] free;

        Search() {
            row = new int[ROW];
            chosen = new int[ROW];
            good = new long[SLOTS];
            bad = new long[SLOTS * SLOTS];
            free = new long[ROW * ROW];
        }

        long placesFor(Harbour h, int k) {
            int slot = MOST_ANCHORED + k;
            look(h, slot);
            return leftFor(h, slot, 0);
        }

        int waitersFor(Harbour h, int spot) {
            int set = 0;
            for (int k = 0; k < h.waiting; k++) {
                if (holds(placesFor(h, k), spot)) {
                    set |= 1 << k;
                }
            }
            return set;
        }

        boolean settlesAll(Harbour h) {
            length = 0;
            moved = 0;
            for (int k = 0; k < h.waiting && length < ROW; k++) {
                look(h, MOST_ANCHORED + k);
                row[length] = MOST_ANCHORED + k;
                length++;
            }
            return settlesRow(h);
        }

        boolean settlesByMoves(Harbour h, int k) {
            look(h, MOST_ANCHORED + k);
            for (int a = 0; a < h.anchored; a++) {
                look(h, a);
            }
            for (int count = 0; count <= MOST_MOVED; count++) {
                for (int set = 0; set < 1 << h.anchored; set++) {
                    if (Integer.bitCount(set) == count && settlesMoving(h, MOST_ANCHORED + k, set)) {
                        return true;
                    }
                }
            }
            return false;
        }

        private boolean settlesMoving(Harbour h, int slot, int set) {
            row[0] = slot;
            length = 1;
            moved = set;
            for (int a = 0; a < h.anchored && length < ROW; a++) {
                if (((set >> a) & 1) != 0) {
                    row[length] = a;
                    length++;
                }
            }
            return settlesRow(h);
        }

        private boolean settlesRow(Harbour h) {
            for (int i = 0; i < length; i++) {
                free[i] = leftFor(h, row[i], moved);
                if (free[i] == 0) {
                    return false;
                }
            }
            return settles(0);
        }

        private boolean settles(int level) {
            if (level >= length || level >= ROW) {
                return true;
            }
            long spots = free[level * ROW + level];
            for (int spot = 0; spot < SPOTS; spot++) {
                if (holds(spots, spot) && settlesAt(level, spot)) {
                    return true;
                }
            }
            return false;
        }

        private boolean settlesAt(int level, int spot) {
            chosen[level] = spot;
            for (int i = level + 1; i < length; i++) {
                long left = free[level * ROW + i] & ~around(row[level], row[i], spot);
                if (left == 0) {
                    return false;
                }
                free[(level + 1) * ROW + i] = left;
            }
            return settles(level + 1);
        }

        // Where the ship may lie and clashes with none that stays.
        private long leftFor(Harbour h, int slot, int moving) {
            long left = good[slot];
            for (int a = 0; a < h.anchored; a++) {
                if (((moving >> a) & 1) == 0) {
                    left &= ~around(a, slot, spotAt(h.xs[a], h.ys[a]));
                }
            }
            return left;
        }

        private long around(int first, int second, int spot) {
            return seenFrom(bad[first * SLOTS + second], FARTHEST - columnOf(spot), FARTHEST - lineOf(spot));
        }

        private void look(Harbour h, int slot) {
            good[slot] = goodSpots(h, slot);
            for (int first = 0; first < SLOTS; first++) {
                if (first != slot && h.hasSlot(first)) {
                    bad[first * SLOTS + slot] = badSpots(h, first, slot);
                }
            }
        }

        private static long goodSpots(Harbour h, int slot) {
            long deep = deepSpots(h, h.draughts[slot]);
            long good = deepSpots(h, 0);
            for (int wind = 0; wind < WINDS; wind++) {
                if (Swing.blows(h.foreseen, wind)) {
                    int x = h.chains[slot] * WIND_X[wind];
                    int y = h.chains[slot] * WIND_Y[wind];
                    good &= squareIn(deep, x, y, h.sides[slot]);
                }
            }
            return good;
        }

        private static long deepSpots(Harbour h, int draught) {
            long spots = 0;
            for (int y = 0; y < h.height; y++) {
                for (int x = 0; x < h.width; x++) {
                    if (h.water(x, y) >= draught) {
                        spots |= 1L << spotAt(x, y);
                    }
                }
            }
            return spots;
        }

        // The spots from which the whole square that lies x, y off is within the given ones.
        private static long squareIn(long spots, int x, int y, int side) {
            long all = -1L;
            for (int dy = 0; dy < side; dy++) {
                for (int dx = 0; dx < side; dx++) {
                    all &= seenFrom(spots, x + dx, y + dy);
                }
            }
            return all;
        }

        private static long badSpots(Harbour h, int first, int second) {
            int longer = h.chains[first] - h.chains[second];
            long bad = 0;
            for (int wind = 0; wind < WINDS; wind++) {
                if (Swing.blows(h.foreseen, wind)) {
                    int x = FARTHEST + longer * WIND_X[wind] - h.sides[second] + 1;
                    int y = FARTHEST + longer * WIND_Y[wind] - h.sides[second] + 1;
                    bad |= square(x, y, h.sides[first] + h.sides[second] - 1);
                }
            }
            return bad;
        }

        private static long square(int x, int y, int side) {
            long spots = 0;
            for (int dy = 0; dy < side; dy++) {
                for (int dx = 0; dx < side; dx++) {
                    spots |= 1L << spotAt(x + dx, y + dy);
                }
            }
            return spots;
        }

        // The spots from which that x, y off is one of the given; those beyond an edge are none.
        private static long seenFrom(long spots, int x, int y) {
            int by = y * STRIDE + x;
            long shifted = by >= 0 ? spots >>> by : spots << -by;
            long columns = x >= 0 ? ONE_ROW >>> x : (ONE_ROW << -x) & ONE_ROW;
            return shifted & (columns * FIRST_COLUMN);
        }
    }

    /** The states ahead of the latest deeds, in a ring. */
    private static final class History {
        private final Harbour[] before;
        private int next;
        int kept;

        History() {
            before = new Harbour[MOST_UNDONE];
            for (int i = 0; i < MOST_UNDONE; i++) {
                before[i] = new Harbour();
            }
        }

        void remember(Harbour h) {
            before[next].copyFrom(h);
            next = (next + 1) % MOST_UNDONE;
            kept = Math.min(kept + 1, MOST_UNDONE);
        }

        void bringBack(int n, Harbour h) {
            next = Math.floorMod(next - n, MOST_UNDONE);
            kept -= n;
            h.copyFrom(before[next]);
        }

        void forget() {
            kept = 0;
        }
    }

    /** What was said of the cells of ships' anchors. */
    private static final class Book {
        private final int[] ships, cells;
        int entries;

        Book() {
            ships = new int[MOST_ENTRIES];
            cells = new int[MOST_ENTRIES];
        }

        void add(int a, int cellSaid) {
            if (entries < MOST_ENTRIES) {
                ships[entries] = a;
                cells[entries] = cellSaid;
                entries++;
            }
        }

        int firstWrong(Harbour h) {
            for (int i = 0; i < entries; i++) {
                int a = ships[i];
                if (!h.hasAnchored(a) || h.cellAt(h.xs[a], h.ys[a]) != cells[i]) {
                    return i;
                }
            }
            return NONE;
        }
    }

    /** What a call of goBack() brings back. */
    private static final class Image {
        final Harbour shown;
        int seedThen;
        boolean taken;

        Image() {
            shown = new Harbour();
        }

        void take(Harbour h, int seed) {
            shown.copyFrom(h);
            seedThen = seed;
            taken = true;
        }
    }
}
