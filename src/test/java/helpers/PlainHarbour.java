import java.util.ArrayDeque;
import java.util.ArrayList;
import java.util.Deque;
import java.util.HashSet;
import java.util.List;
import java.util.Set;

/**
 * The document once more, in its plainest form: cells are pairs of numbers in sets, every choice is
 * tried. It shares no code with SwungShips, so that runs on both tell where one of them is wrong.
 */
public final class PlainHarbour {
    private static final int NONE = -1, UNKNOWN = -1000000001, OUTSIDE = -1000000002, NOT = -1000000003, FULL = -1000000004;
    private static final int[][] LIES_OFF = {{0, 1}, {1, 1}, {1, 0}, {1, -1}, {0, -1}, {-1, -1}, {-1, 0}, {-1, 1}};

    private record Cell(int x, int y) { }

    private record Ship(int draught, int chain, int side, Cell anchor) {
        Ship at(Cell c) {
            return new Ship(draught, chain, side, c);
        }

        Set<Cell> liesBy(int wind) {
            Set<Cell> cells = new HashSet<>();
            for (int i = 0; i < side; i++) {
                for (int j = 0; j < side; j++) {
                    cells.add(new Cell(anchor.x + chain * LIES_OFF[wind][0] + i, anchor.y + chain * LIES_OFF[wind][1] + j));
                }
            }
            return cells;
        }

        Set<Cell> sweeps(int foreseen) {
            Set<Cell> cells = new HashSet<>();
            for (int wind = 0; wind < 8; wind++) {
                if ((foreseen >> wind & 1) == 1) {
                    cells.addAll(liesBy(wind));
                }
            }
            return cells;
        }

        boolean clashes(Ship other, int foreseen) {
            for (int wind = 0; wind < 8; wind++) {
                if ((foreseen >> wind & 1) == 1) {
                    for (Cell c : liesBy(wind)) {
                        if (other.liesBy(wind).contains(c)) {
                            return true;
                        }
                    }
                }
            }
            return false;
        }
    }

    /** All of section 1; the ships in it do not change, so that a copy holds the same ones. */
    private static final class State {
        int w = 6, h = 6, tide = 0, foreseen = 255;
        int[] depths = depthsOf(36);
        List<Ship> anchored = new ArrayList<>();
        List<Ship> waiting = new ArrayList<>();

        State copy() {
            State s = new State();
            s.w = w;
            s.h = h;
            s.tide = tide;
            s.foreseen = foreseen;
            s.depths = depths.clone();
            s.anchored = new ArrayList<>(anchored);
            s.waiting = new ArrayList<>(waiting);
            return s;
        }

        boolean has(Cell c) {
            return c.x >= 0 && c.y >= 0 && c.x < w && c.y < h;
        }

        int water(Cell c) {
            return has(c) ? Math.max(0, depths[c.y * w + c.x] + tide) : 0;
        }

        boolean mayLie(Ship s, int winds) {
            for (Cell c : s.sweeps(winds)) {
                if (!has(c) || water(c) < s.draught) {
                    return false;
                }
            }
            return true;
        }

        List<Cell> cells() {
            List<Cell> cells = new ArrayList<>();
            for (int y = 0; y < h; y++) {
                for (int x = 0; x < w; x++) {
                    cells.add(new Cell(x, y));
                }
            }
            return cells;
        }

        List<Cell> places(Ship s) {
            List<Cell> places = new ArrayList<>();
            for (Cell c : cells()) {
                if (fits(s.at(c), anchored)) {
                    places.add(c);
                }
            }
            return places;
        }

        boolean fits(Ship s, List<Ship> others) {
            for (Ship o : others) {
                if (s.clashes(o, foreseen)) {
                    return false;
                }
            }
            return mayLie(s, foreseen);
        }

        int number(Cell c) {
            return c.y * w + c.x;
        }

        int danger(int winds) {
            int set = 0;
            for (int a = 0; a < anchored.size(); a++) {
                if (!mayLie(anchored.get(a), winds) || clashSet(a, winds) != 0) {
                    set |= 1 << a;
                }
            }
            return set;
        }

        int clashSet(int a, int winds) {
            int set = 0;
            for (int b = 0; b < anchored.size(); b++) {
                if (a != b && anchored.get(a).clashes(anchored.get(b), winds)) {
                    set |= 1 << b;
                }
            }
            return set;
        }

        /** The least row of cells for these ships with the others as they are; null: there is none. */
        List<Cell> leastRow(List<Ship> ships, List<Ship> others) {
            if (ships.isEmpty()) {
                return new ArrayList<>();
            }
            for (Cell c : cells()) {
                Ship s = ships.get(0).at(c);
                if (fits(s, others)) {
                    List<Ship> more = new ArrayList<>(others);
                    more.add(s);
                    List<Cell> rest = leastRow(ships.subList(1, ships.size()), more);
                    if (rest != null) {
                        rest.add(0, c);
                        return rest;
                    }
                }
            }
            return null;
        }
    }

    private record Moves(int set, List<Integer> ships, List<Cell> cells) { }

    private State now = new State();
    private int seed = 0;
    private final Deque<State> past = new ArrayDeque<>();
    private final List<int[]> book = new ArrayList<>();
    private final State[] images = new State[2];
    private final int[] imageSeeds = new int[2];

    private static int[] depthsOf(int n) {
        int[] d = new int[n];
        java.util.Arrays.fill(d, 5);
        return d;
    }

    private void deed() {
        past.addLast(now.copy());
        if (past.size() > 16) {
            past.removeFirst();
        }
    }

    private boolean waitsNot(int k) {
        return k < 0 || k >= now.waiting.size();
    }

    private boolean anchorsNot(int a) {
        return a < 0 || a >= now.anchored.size();
    }

    private Moves movesOf(int k) {
        int n = now.anchored.size();
        for (int count = 0; count <= 2; count++) {
            for (int set = 0; set < 1 << n; set++) {
                if (Integer.bitCount(set) != count) {
                    continue;
                }
                List<Integer> which = new ArrayList<>();
                List<Ship> ships = new ArrayList<>();
                List<Ship> stay = new ArrayList<>();
                ships.add(now.waiting.get(k));
                for (int a = 0; a < n; a++) {
                    if ((set >> a & 1) == 1) {
                        which.add(a);
                        ships.add(now.anchored.get(a));
                    } else {
                        stay.add(now.anchored.get(a));
                    }
                }
                List<Cell> row = now.leastRow(ships, stay);
                if (row != null) {
                    return new Moves(set, which, row);
                }
            }
        }
        return null;
    }

    private List<Cell> first() {
        return now.leastRow(now.waiting, now.anchored);
    }

    public int told(int what) {
        switch (what) {
            case 0: return now.w;
            case 1: return now.h;
            case 2: return now.tide;
            case 3: return now.foreseen;
            case 4: return now.anchored.size();
            case 5: return now.waiting.size();
            case 6: return now.danger(now.foreseen);
            case 7: return pairs();
            case 8: return first() != null ? 1 : 0;
            case 9: return threats();
            case 10: return swept();
            case 11: return book.size();
            case 12: return wrong();
            case 13: return past.size();
            case 14: return seed;
            default: return OUTSIDE;
        }
    }

    private int pairs() {
        int pairs = 0;
        for (int a = 0; a < now.anchored.size(); a++) {
            for (int b = 0; b < a; b++) {
                if (now.anchored.get(a).clashes(now.anchored.get(b), now.foreseen)) {
                    pairs++;
                }
            }
        }
        return pairs;
    }

    private int threats() {
        int set = 0;
        for (int wind = 0; wind < 8; wind++) {
            boolean foreseen = (now.foreseen >> wind & 1) == 1;
            int others = now.danger(now.foreseen | 1 << wind) & ~now.danger(now.foreseen);
            if (!foreseen && others != 0) {
                set |= 1 << wind;
            }
        }
        return set;
    }

    private int swept() {
        Set<Cell> cells = new HashSet<>();
        for (Ship s : now.anchored) {
            cells.addAll(s.sweeps(now.foreseen));
        }
        cells.removeIf(c -> !now.has(c));
        return cells.size();
    }

    private int wrong() {
        for (int i = 0; i < book.size(); i++) {
            int[] e = book.get(i);
            if (anchorsNot(e[0]) || now.number(now.anchored.get(e[0]).anchor) != e[1]) {
                return i;
            }
        }
        return NONE;
    }

    public int cell(int x, int y, int what) {
        Cell c = new Cell(x, y);
        if (!now.has(c)) {
            return UNKNOWN;
        }
        int set = 0;
        switch (what) {
            case 0: return now.depths[y * now.w + x];
            case 1: return now.water(c);
            case 2:
                for (int a = 0; a < now.anchored.size(); a++) {
                    set |= now.anchored.get(a).sweeps(now.foreseen).contains(c) ? 1 << a : 0;
                }
                return set;
            case 3:
                for (int k = 0; k < now.waiting.size(); k++) {
                    set |= now.fits(now.waiting.get(k).at(c), now.anchored) ? 1 << k : 0;
                }
                return set;
            default: return OUTSIDE;
        }
    }

    public int ship(int a, int what) {
        if (anchorsNot(a)) {
            return UNKNOWN;
        }
        Ship s = now.anchored.get(a);
        switch (what) {
            case 0: return s.draught;
            case 1: return s.chain;
            case 2: return s.side;
            case 3: return now.number(s.anchor);
            case 4: return (int) s.sweeps(now.foreseen).stream().filter(now::has).count();
            case 5: return now.clashSet(a, now.foreseen);
            case 6: return now.mayLie(s, now.foreseen) ? 1 : 0;
            case 7: return s.sweeps(now.foreseen).stream().mapToInt(now::water).min().getAsInt() - s.draught + 100;
            default: return OUTSIDE;
        }
    }

    public int waits(int k, int what) {
        if (waitsNot(k)) {
            return UNKNOWN;
        }
        Ship s = now.waiting.get(k);
        List<Cell> places = now.places(s);
        switch (what) {
            case 0: return s.draught;
            case 1: return s.chain;
            case 2: return s.side;
            case 3: return places.size();
            case 4: return places.isEmpty() ? NONE : now.number(places.get(0));
            case 5:
                List<Cell> row = first();
                return row == null ? NONE : now.number(row.get(k));
            case 6:
            case 7:
                Moves m = movesOf(k);
                return m == null ? NONE : what == 6 ? m.ships.size() : m.set;
            default: return OUTSIDE;
        }
    }

    public int moves(int k, int i) {
        if (waitsNot(k)) {
            return UNKNOWN;
        }
        if (i < 0 || i > 2) {
            return OUTSIDE;
        }
        Moves m = movesOf(k);
        return m == null || i >= m.cells.size() ? NONE : now.number(m.cells.get(i));
    }

    public int lies(int a, int wind, int x, int y) {
        Cell c = new Cell(x, y);
        if (anchorsNot(a) || !now.has(c)) {
            return UNKNOWN;
        }
        if (wind < 0 || wind > 7) {
            return OUTSIDE;
        }
        return now.anchored.get(a).liesBy(wind).contains(c) ? 1 : 0;
    }

    public int harbour(int w, int h) {
        if (w < 2 || w > 7 || h < 2 || h > 7) {
            return OUTSIDE;
        }
        deed();
        int before = now.anchored.size();
        now.w = w;
        now.h = h;
        now.depths = depthsOf(w * h);
        now.anchored.clear();
        now.waiting.clear();
        return before;
    }

    public int depth(int x, int y, int v) {
        if (!now.has(new Cell(x, y))) {
            return UNKNOWN;
        }
        if (v < 0 || v > 9) {
            return OUTSIDE;
        }
        deed();
        int before = now.depths[y * now.w + x];
        now.depths[y * now.w + x] = v;
        return before;
    }

    public int tide(int v) {
        if (v < -3 || v > 3) {
            return OUTSIDE;
        }
        deed();
        int before = now.tide;
        now.tide = v;
        return before;
    }

    public int winds(int set) {
        if (set < 1 || set > 255) {
            return OUTSIDE;
        }
        deed();
        int before = now.foreseen;
        now.foreseen = set;
        return before;
    }

    public int arrive(int draught, int chain, int side) {
        if (draught < 1 || draught > 9 || chain < 0 || chain > 2 || side < 1 || side > 2) {
            return OUTSIDE;
        }
        if (now.waiting.size() == 3) {
            return FULL;
        }
        deed();
        now.waiting.add(new Ship(draught, chain, side, null));
        return now.waiting.size() - 1;
    }

    public int anchor(int k, int x, int y) {
        Cell c = new Cell(x, y);
        if (waitsNot(k) || !now.has(c)) {
            return UNKNOWN;
        }
        if (!now.fits(now.waiting.get(k).at(c), now.anchored)) {
            return NOT;
        }
        if (now.anchored.size() == 5) {
            return FULL;
        }
        deed();
        now.anchored.add(now.waiting.remove(k).at(c));
        return now.anchored.size() - 1;
    }

    public int fit(int k) {
        if (waitsNot(k)) {
            return UNKNOWN;
        }
        List<Cell> places = now.places(now.waiting.get(k));
        if (places.isEmpty()) {
            return NOT;
        }
        if (now.anchored.size() == 5) {
            return FULL;
        }
        deed();
        now.anchored.add(now.waiting.remove(k).at(places.get(0)));
        return now.number(places.get(0));
    }

    public int fitAll() {
        List<Cell> row = first();
        if (row == null || now.waiting.isEmpty()) {
            return NOT;
        }
        if (now.anchored.size() + row.size() > 5) {
            return FULL;
        }
        deed();
        for (Cell c : row) {
            now.anchored.add(now.waiting.remove(0).at(c));
        }
        return row.size();
    }

    public int shift(int k) {
        if (waitsNot(k)) {
            return UNKNOWN;
        }
        Moves m = movesOf(k);
        if (m == null) {
            return NOT;
        }
        if (now.anchored.size() == 5) {
            return FULL;
        }
        deed();
        for (int i = 0; i < m.ships.size(); i++) {
            int a = m.ships.get(i);
            now.anchored.set(a, now.anchored.get(a).at(m.cells.get(i + 1)));
        }
        now.anchored.add(now.waiting.remove(k).at(m.cells.get(0)));
        return m.ships.size();
    }

    public int leave(int a) {
        if (anchorsNot(a)) {
            return UNKNOWN;
        }
        deed();
        now.anchored.remove(a);
        return now.anchored.size();
    }

    public int turnAway(int k) {
        if (waitsNot(k)) {
            return UNKNOWN;
        }
        deed();
        now.waiting.remove(k);
        return now.waiting.size();
    }

    private int draw(int n) {
        seed = (int) ((seed * 1103515245L + 12345L) % (1L << 31));
        return seed / 65536 % n;
    }

    public int drift(int n) {
        if (n < 1 || n > 12) {
            return OUTSIDE;
        }
        for (int i = 0; i < n; i++) {
            deed();
            int c = draw(now.w * now.h);
            now.depths[c] = draw(10);
        }
        return now.danger(now.foreseen);
    }

    public int undo(int n) {
        if (n < 1 || n > 16) {
            return OUTSIDE;
        }
        if (n > past.size()) {
            return NOT;
        }
        for (int i = 0; i < n; i++) {
            now = past.removeLast();
        }
        return past.size();
    }

    public int write(int a, int cell) {
        if (anchorsNot(a)) {
            return UNKNOWN;
        }
        if (book.size() == 20) {
            return FULL;
        }
        book.add(new int[] {a, cell});
        return book.size();
    }

    public int tear() {
        int before = book.size();
        book.clear();
        return before;
    }

    public int seed(int v) {
        if (v < 0) {
            return OUTSIDE;
        }
        int before = seed;
        seed = v;
        return before;
    }

    public int keep(int i) {
        if (i < 0 || i > 1) {
            return UNKNOWN;
        }
        images[i] = now.copy();
        imageSeeds[i] = seed;
        past.clear();
        return 1;
    }

    public int goBack(int i) {
        if (i < 0 || i > 1) {
            return UNKNOWN;
        }
        if (images[i] == null) {
            return NOT;
        }
        now = images[i].copy();
        seed = imageSeeds[i];
        past.clear();
        return 1;
    }
}
