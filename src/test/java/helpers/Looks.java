import java.util.ArrayList;
import java.util.List;

/**
 * Ways to look at an object from all sides: what is so, what can be undone, what the images keep, the book,
 * and how it goes on. Each way changes the object or takes many calls, so each has an object of its own.
 */
public final class Looks {
    /** One way to look: it makes calls, the object notes their answers. */
    public interface Look {
        void at(Watched w);
    }

    private Looks() {
    }

    public static List<Look> all() {
        List<Look> looks = new ArrayList<>();
        looks.add(Looks::whatIsSo);
        for (int what = 0; what < 4; what++) {
            int asked = what;
            looks.add(w -> cells(w, asked));
        }
        for (int i = 0; i < 10; i++) {
            int a = i / 2;
            int wind = i % 2 * 4;
            looks.add(w -> lies(w, a, wind));
        }
        looks.add(Looks::undoneOneByOne);
        looks.add(Looks::undoneAtOnce);
        looks.add(w -> image(w, 0));
        looks.add(w -> image(w, 1));
        looks.add(Looks::book);
        looks.add(Looks::goesOn);
        return looks;
    }

    public static void whatIsSo(Watched w) {
        for (int what = 0; what < 15; what++) {
            w.ask("told", what);
        }
        for (int what = 0; what < 8; what++) {
            for (int a = 0; a < 5; a++) {
                w.ask("ship", a, what);
            }
            for (int k = 0; k < 3; k++) {
                w.ask("waits", k, what);
            }
        }
        for (int i = 0; i < 9; i++) {
            w.ask("moves", i / 3, i % 3);
        }
    }

    public static void cells(Watched w, int what) {
        for (int i = 0; i < 49; i++) {
            w.ask("cell", i % 7, i / 7, what);
        }
    }

    /** By four winds from this one on. */
    public static void lies(Watched w, int a, int wind) {
        for (int i = 0; i < 4 * 49; i++) {
            w.ask("lies", a, wind + i / 49, i % 7, i / 7 % 7);
        }
    }

    private static void undoneOneByOne(Watched w) {
        for (int n = 0; n < 16; n++) {
            w.ask("undo", 1);
            for (int what = 0; what < 7; what++) {
                w.ask("told", what);
            }
            for (int a = 0; a < 5; a++) {
                w.ask("ship", a, 3);
            }
            for (int k = 0; k < 3; k++) {
                w.ask("waits", k, 0);
            }
            for (int i = 0; i < 7; i++) {
                w.ask("cell", i, 6 - i, 0);
            }
        }
    }

    private static void undoneAtOnce(Watched w) {
        w.ask("undo", Math.max(1, w.ask("told", 13)));
        whatIsSo(w);
        cells(w, 0);
    }

    private static void image(Watched w, int i) {
        w.ask("goBack", i);
        whatIsSo(w);
        cells(w, 0);
    }

    /** One ship after the other leaves, so that entry after entry may become wrong. */
    private static void book(Watched w) {
        w.ask("told", 12);
        w.ask("told", 11);
        for (int a = 4; a >= 0; a--) {
            w.ask("leave", a);
            w.ask("told", 12);
        }
        w.ask("undo", 1);
        w.ask("told", 12);
        for (int i = 0; i < 21; i++) {
            w.ask("write", 0, w.ask("ship", 0, 3));
        }
        w.ask("told", 12);
        w.ask("tear");
    }

    private static void goesOn(Watched w) {
        w.ask("drift", 2);
        w.ask("told", 14);
        w.ask("arrive", 1, 1, 1);
        w.ask("shift", 0);
        w.ask("fit", 0);
        w.ask("fitAll");
        w.ask("arrive", 2, 0, 2);
        whatIsSo(w);
        cells(w, 0);
    }
}
