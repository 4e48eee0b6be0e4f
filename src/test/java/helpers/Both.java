import java.util.ArrayList;
import java.util.Arrays;
import java.util.List;

/** One run of calls on a SwungShips and on a PlainHarbour; the first answers that differ are told. */
public final class Both {
    private static final Calls SWUNG = new Calls(SwungShips.class);
    private static final Calls PLAIN = new Calls(PlainHarbour.class);
    private static final int SHOWN = 12;

    private final SwungShips swung = new SwungShips();
    private final PlainHarbour plain = new PlainHarbour();
    private final List<String> rows = new ArrayList<>();
    private boolean differs;

    /** What SwungShips answers. */
    public int ask(String name, int... args) {
        int got = SWUNG.answer(swung, name, args);
        int due = PLAIN.answer(plain, name, args);
        rows.add(name + Arrays.toString(args) + " = " + got);
        if (got != due && !differs) {
            differs = true;
            tell(due);
        }
        return got;
    }

    private void tell(int due) {
        int from = Math.max(0, rows.size() - SHOWN);
        System.out.println(".. " + from + " calls, then:");
        for (String row : rows.subList(from, rows.size())) {
            System.out.println("  " + row);
        }
        System.out.println("  due is " + due);
    }

    public boolean differs() {
        return differs;
    }

    public int calls() {
        return rows.size();
    }
}
