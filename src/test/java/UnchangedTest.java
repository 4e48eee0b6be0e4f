import java.util.ArrayList;
import java.util.Arrays;
import java.util.List;

/**
 * 'What is refused changes nothing', 'ASKED, nothing changes by it', and that a deed undone leaves nothing behind:
 * an object on which the call was made and one on which it was not are looked at from all sides.
 */
public final class UnchangedTest extends Sheet {
    private static final int[] FAR = {MIN, MAX};

    // The scenes: calls that none of them refuses.
    private static final String NEW = "";
    private static final String BUSY = "harbour 5 4, seed 99, winds 17, depth 4 3 9, depth 0 0 2, arrive 1 0 1, anchor 0 2 1, keep 0, "
        + "write 0 7, arrive 2 1 1, anchor 0 1 1, write 1 6, write 1 7, tide -1, arrive 9 0 2, arrive 1 0 1, winds 21, depth 1 1 6, drift 2";
    private static final String CROWDED = "harbour 4 4, tide 2, keep 0, harbour 7 7, seed 2147483647, winds 1, "
        + "arrive 1 0 1, fit 0, arrive 2 1 1, fit 0, arrive 3 2 1, fit 0, arrive 4 0 2, fit 0, arrive 5 1 1, fit 0, "
        + "write 0 0, write 1 1, write 2 2, write 3 3, write 4 5, write 4 4, write 0 0, write 0 0, write 0 0, write 0 0, "
        + "write 0 0, write 0 0, write 0 0, write 0 0, write 0 0, write 0 0, write 0 0, write 0 0, write 0 0, write 0 9, "
        + "depth 6 6 8, tide 0, winds 129, arrive 1 0 1, arrive 5 2 2";
    private static final String FULL_UP = CROWDED + ", arrive 9 0 1, tide 0, depth 3 3 1";
    private static final String TIGHT = "tide 3, keep 1, harbour 3 2, arrive 1 0 1, anchor 0 1 1, arrive 1 0 1, anchor 0 1 0, arrive 1 0 2, arrive 1 0 1";

    private final List<Looks.Look> looks = Looks.all();
    private final List<List<Integer>> untouched = new ArrayList<>();
    private String script;
    private int refused = 0;

    public static void main(String[] args) {
        UnchangedTest t = new UnchangedTest();
        String[] scenes = {NEW, BUSY, CROWDED, FULL_UP, TIGHT};
        for (String scene : scenes) {
            t.scene(scene);
            t.refusedCells();
            t.refusedShips();
            t.refusedNumbers();
            t.refusedUndo();
            t.asked();
        }
        t.refusedInNew();
        t.refusedInBusy();
        t.refusedInCrowded();
        t.refusedInFull();
        t.undoneDeeds();
        t.end();
        System.out.println(t.refused + " refused calls change nothing");
    }

    private void scene(String calls) {
        script = calls;
        untouched.clear();
        for (Looks.Look look : looks) {
            Watched w = built();
            look.at(w);
            untouched.add(new ArrayList<>(w.answers()));
        }
    }

    private Watched built() {
        Watched w = new Watched();
        if (!script.isEmpty()) {
            w.run(script);
        }
        w.forgetAnswers();
        return w;
    }

    private int told(int what) {
        return built().ask("told", what);
    }

    private void refuse(int want, String name, int... args) {
        goOn("What is refused changes nothing: " + (script.isEmpty() ? "a new object" : script));
        refused++;
        String call = name + Arrays.toString(args);
        due(call, built().ask(name, args), want);
        for (int i = 0; i < looks.size(); i++) {
            Watched w = built();
            w.ask(name, args);
            sameAs(i, w, call);
        }
    }

    private void sameAs(int look, Watched w, String behind) {
        w.forgetAnswers();
        looks.get(look).at(w);
        List<Integer> seen = w.answers();
        List<Integer> before = untouched.get(look);
        due("how many answers", seen.size(), before.size());
        for (int j = 0; j < Math.min(seen.size(), before.size()); j++) {
            due("look " + look + ", answer " + j + " behind " + behind, seen.get(j), before.get(j));
        }
    }

    private static int[] with(int... own) {
        int[] all = new int[own.length + FAR.length];
        System.arraycopy(own, 0, all, 0, own.length);
        System.arraycopy(FAR, 0, all, own.length, FAR.length);
        return all;
    }

    private void refusedCells() {
        for (int v : with(-1, told(0))) {
            refuse(UNKNOWN, "cell", v, 0, 0);
            refuse(UNKNOWN, "depth", v, 0, 1);
        }
        for (int v : with(-1, told(1))) {
            refuse(UNKNOWN, "cell", 0, v, 0);
            refuse(UNKNOWN, "depth", 0, v, 1);
        }
        for (int v : with(-1, 4)) {
            refuse(OUTSIDE, "cell", 0, 0, v);
        }
        for (int v : with(-1, 10)) {
            refuse(OUTSIDE, "depth", 0, 0, v);
        }
    }

    private void refusedShips() {
        for (int a : with(-1, told(4))) {
            refuse(UNKNOWN, "ship", a, 0);
            refuse(UNKNOWN, "lies", a, 0, 0, 0);
            refuse(UNKNOWN, "leave", a);
            refuse(UNKNOWN, "write", a, 0);
        }
        for (int k : with(-1, told(5))) {
            refuse(UNKNOWN, "waits", k, 0);
            refuse(UNKNOWN, "moves", k, 0);
            refuse(UNKNOWN, "anchor", k, 0, 0);
            refuse(UNKNOWN, "fit", k);
            refuse(UNKNOWN, "shift", k);
            refuse(UNKNOWN, "turnAway", k);
        }
        if (told(4) > 0) {
            for (int v : with(-1, 8)) {
                refuse(OUTSIDE, "ship", 0, v);
                refuse(OUTSIDE, "lies", 0, v, 0, 0);
            }
            refuse(UNKNOWN, "lies", 0, 0, told(0), 0);
            refuse(UNKNOWN, "lies", 0, 0, 0, told(1));
        }
        if (told(5) > 0) {
            for (int v : with(-1)) {
                refuse(OUTSIDE, "waits", 0, v);
                refuse(OUTSIDE, "moves", 0, v);
                refuse(UNKNOWN, "anchor", 0, v, 0);
                refuse(UNKNOWN, "anchor", 0, 0, v);
            }
            refuse(OUTSIDE, "waits", 0, 8);
            refuse(OUTSIDE, "moves", 0, 3);
            refuse(UNKNOWN, "anchor", 0, told(0), 0);
            refuse(UNKNOWN, "anchor", 0, 0, told(1));
        }
    }

    private void refusedNumbers() {
        for (int v : with(-1, 15)) {
            refuse(OUTSIDE, "told", v);
        }
        for (int v : with(1, 8)) {
            refuse(OUTSIDE, "harbour", v, 2);
            refuse(OUTSIDE, "harbour", 2, v);
        }
        for (int v : with(-4, 4)) {
            refuse(OUTSIDE, "tide", v);
        }
        for (int v : with(-1, 0, 256)) {
            refuse(OUTSIDE, "winds", v);
        }
        for (int v : with(0, 10)) {
            refuse(OUTSIDE, "arrive", v, 0, 1);
        }
        for (int v : with(-1, 3)) {
            refuse(OUTSIDE, "arrive", 1, v, 1);
        }
        for (int v : with(0, 3)) {
            refuse(OUTSIDE, "arrive", 1, 0, v);
        }
        for (int v : with(-1, 0, 13)) {
            refuse(OUTSIDE, "drift", v);
        }
        for (int v : new int[] {-1, MIN}) {
            refuse(OUTSIDE, "seed", v);
        }
        for (int v : with(-1, 2)) {
            refuse(UNKNOWN, "keep", v);
            refuse(UNKNOWN, "goBack", v);
        }
    }

    private void refusedUndo() {
        for (int v : with(-1, 0, 17)) {
            refuse(OUTSIDE, "undo", v);
        }
        for (int n = told(13) + 1; n <= 16; n++) {
            refuse(NOT, "undo", n);
        }
    }

    private void refusedInNew() {
        scene(NEW);
        refuse(NOT, "fitAll");
        refuse(NOT, "goBack", 0);
        refuse(NOT, "goBack", 1);
    }

    private void refusedInBusy() {
        scene(BUSY);
        refuse(NOT, "goBack", 1);
        refuse(NOT, "anchor", 0, 0, 0);
        refuse(NOT, "anchor", 1, 2, 1);
        refuse(NOT, "fit", 0);
        refuse(NOT, "shift", 0);
        refuse(NOT, "fitAll");
    }

    private void refusedInCrowded() {
        scene(CROWDED);
        refuse(FULL, "anchor", 0, 6, 6);
        refuse(FULL, "fit", 0);
        refuse(FULL, "shift", 0);
        refuse(FULL, "fitAll");
        refuse(FULL, "write", 0, 0);
        refuse(NOT, "anchor", 0, 0, 0);
    }

    private void refusedInFull() {
        scene(FULL_UP);
        refuse(FULL, "arrive", 1, 0, 1);
        refuse(FULL, "anchor", 0, 6, 6);
        refuse(FULL, "fit", 0);
        refuse(FULL, "shift", 0);
        refuse(NOT, "fitAll");
        refuse(NOT, "fit", 2);
        refuse(NOT, "shift", 2);
        refuse(NOT, "anchor", 2, 6, 6);
        refuse(FULL, "write", 4, 0);
    }

    private void asked() {
        goOn("ASKED, nothing changes by it: " + (script.isEmpty() ? "a new object" : script));
        for (int i = 0; i < looks.size(); i++) {
            Watched w = built();
            Looks.whatIsSo(w);
            sameAs(i, w, "told, ship, waits, moves");
            for (int what = 0; what < 4; what++) {
                w = built();
                Looks.cells(w, what);
                sameAs(i, w, "cell");
            }
            w = built();
            w.ask("cell", 0, 0, i % 4);
            sameAs(i, w, "one cell");
            w = built();
            w.ask("told", i % 15);
            sameAs(i, w, "told once");
            w = built();
            for (int wind = 0; wind < 8; wind++) {
                w.ask("lies", 0, wind, 0, 0);
            }
            sameAs(i, w, "lies");
        }
    }

    private void undone(int count, String name, int... args) {
        goOn("all of section 1 is as ahead of them: " + script);
        for (int i = 0; i < looks.size(); i++) {
            Watched w = built();
            int seed = w.ask("told", 14);
            int deeds = w.ask("told", 13);
            due(name + " is not refused", w.ask(name, args) < -1000000000 ? 0 : 1, 1);
            due(name + ", undone", w.ask("undo", count), deeds);
            // The seed alone stays as it has become.
            w.ask("seed", seed);
            sameAs(i, w, name);
        }
    }

    private void undoneDeeds() {
        scene(TIGHT);
        undone(1, "harbour", 7, 7);
        undone(1, "harbour", 3, 2);
        undone(1, "depth", 2, 1, 0);
        undone(1, "tide", -3);
        undone(1, "winds", 1);
        undone(1, "arrive", 9, 2, 2);
        undone(1, "anchor", 1, 2, 1);
        undone(1, "fit", 1);
        undone(1, "shift", 0);
        undone(1, "leave", 0);
        undone(1, "leave", 1);
        undone(1, "turnAway", 0);
        undone(1, "turnAway", 1);
        undone(1, "drift", 1);
        undone(9, "drift", 9);
        scene(BUSY + ", turnAway 0");
        undone(1, "fitAll");
    }
}
