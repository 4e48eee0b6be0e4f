import java.util.Random;

/**
 * Long runs of drawn calls, whose answers must be those of PlainHarbour. Seeds are fixed, so that each
 * run is the same one; the kinds of state that must have come up are counted.
 */
public final class RandomRunsTest {
    private static final int RUNS = 2000, CALLS = 500;
    private static final int[] FEW_WINDS = {1, 2, 4, 5, 17, 68, 85, 170, 255};
    private static final String[] SEEN = {"moves of 0", "moves of 1", "moves of 2", "no moves", "danger", "threats",
        "places for all", "no places for all", "shifts of 1", "shifts of 2", "FULL", "NOT", "16 undone", "wrong entry", "clash"};
    private static final int[] seen = new int[SEEN.length];

    private final Random random;
    private final Both both = new Both();

    private RandomRunsTest(long seed) {
        random = new Random(seed);
    }

    public static void main(String[] args) {
        int wrong = 0;
        for (int run = 0; run < RUNS; run++) {
            if (!new RandomRunsTest(run).passes()) {
                System.out.println("drawn run " + run + " differs");
                wrong++;
            }
        }
        for (int i = 0; i < SEEN.length; i++) {
            if (seen[i] < 20) {
                System.out.println("too few: " + SEEN[i] + ", " + seen[i]);
                wrong++;
            }
        }
        if (wrong != 0) {
            System.exit(1);
        }
    }

    private boolean passes() {
        boolean crowded = random.nextInt(3) > 0;
        if (random.nextInt(4) > 0) {
            both.ask("harbour", 2 + random.nextInt(6), 2 + random.nextInt(6));
        }
        both.ask("winds", FEW_WINDS[random.nextInt(FEW_WINDS.length)]);
        both.ask("seed", random.nextInt() & Integer.MAX_VALUE);
        while (both.calls() < CALLS && !both.differs()) {
            if (random.nextInt(3) == 0) {
                doSomething(crowded);
            } else {
                askSomething();
            }
        }
        return !both.differs();
    }

    /** Mostly within 0 .. n - 1, at times just beyond, at times far off. */
    private int number(int n) {
        int kind = random.nextInt(40);
        if (kind == 0) {
            return random.nextInt();
        }
        if (kind == 1) {
            return random.nextBoolean() ? Integer.MIN_VALUE : Integer.MAX_VALUE;
        }
        if (kind < 5) {
            return random.nextBoolean() ? -1 : n;
        }
        return random.nextInt(n);
    }

    private void count(int kind, boolean is) {
        if (is) {
            seen[kind]++;
        }
    }

    private void askSomething() {
        switch (random.nextInt(8)) {
            case 0:
                both.ask("told", number(15));
                count(4, both.ask("told", 6) > 0);
                break;
            case 1:
                both.ask("cell", number(7), number(7), number(4));
                break;
            case 2:
                both.ask("ship", number(5), number(8));
                count(14, both.ask("told", 7) > 0);
                break;
            case 3:
                both.ask("waits", number(3), number(8));
                break;
            case 4:
                countMoves(both.ask("waits", number(3), 6));
                both.ask("moves", number(3), number(3));
                break;
            case 5:
                both.ask("lies", number(5), number(8), number(7), number(7));
                break;
            case 6:
                count(5, both.ask("told", 9) > 0);
                count(13, both.ask("told", 12) >= 0);
                break;
            default:
                countAll(both.ask("told", 8), both.ask("told", 5));
                break;
        }
    }

    private void countMoves(int n) {
        count(0, n == 0);
        count(1, n == 1);
        count(2, n == 2);
        count(3, n == -1);
    }

    private void countAll(int answer, int waiting) {
        count(6, answer == 1 && waiting > 1);
        count(7, answer == 0);
    }

    private void doSomething(boolean crowded) {
        int answer = random.nextInt(5) > 0 ? comeAndGo(crowded) : change();
        count(10, answer == SwungShips.FULL);
        count(11, answer == SwungShips.NOT);
        count(12, both.ask("told", 13) == 16);
    }

    private int comeAndGo(boolean crowded) {
        switch (random.nextInt(12)) {
            case 0:
            case 1:
            case 2:
            case 3:
                return both.ask("arrive", 1 + number(crowded ? 4 : 9), number(3), 1 + number(2));
            case 4:
                return both.ask("fit", number(3));
            case 5:
                return both.ask("fitAll");
            case 6:
            case 7:
                int moved = both.ask("shift", number(3));
                count(8, moved == 1);
                count(9, moved == 2);
                return moved;
            case 8:
            case 9:
                return both.ask("anchor", number(3), number(7), number(7));
            case 10:
                return both.ask(random.nextInt(3) == 0 ? "leave" : "turnAway", number(5));
            default:
                return both.ask("undo", 1 + number(random.nextInt(3) == 0 ? 16 : 3));
        }
    }

    private int change() {
        switch (random.nextInt(11)) {
            case 0: return random.nextInt(8) == 0 ? both.ask("harbour", 2 + number(6), 2 + number(6)) : both.ask("tear");
            case 1:
            case 2: return both.ask("depth", number(7), number(7), number(10));
            case 3: return both.ask("tide", number(7) - 3);
            case 4:
            case 5: return both.ask("winds", random.nextInt(3) == 0 ? 1 + number(255) : FEW_WINDS[number(9) & 7]);
            case 6: return both.ask("drift", 1 + number(random.nextInt(3) == 0 ? 12 : 2));
            case 7: return both.ask("write", number(5), both.ask("ship", number(5), 3));
            case 8: return both.ask("seed", number(1000));
            case 9: return both.ask("keep", number(2));
            default: return both.ask("goBack", number(2));
        }
    }
}
