/** What a test stands on: the sentence that is looked at, the object, and how many answers were not as due. */
public abstract class Sheet {
    protected static final int NONE = SwungShips.NONE, UNKNOWN = SwungShips.UNKNOWN, OUTSIDE = SwungShips.OUTSIDE,
        NOT = SwungShips.NOT, FULL = SwungShips.FULL;
    protected static final int MIN = Integer.MIN_VALUE, MAX = Integer.MAX_VALUE;

    protected SwungShips x;
    private String sentence = "";
    private int wrong = 0;

    /** A new object for a sentence of the document. */
    protected final void start(String text) {
        sentence = text;
        x = new SwungShips();
    }

    protected final void start(String text, int w, int h) {
        start(text);
        due("harbour(" + w + ", " + h + ")", x.harbour(w, h), 0);
    }

    /** The same object, another sentence. */
    protected final void goOn(String text) {
        sentence = text;
    }

    protected final void due(String what, int got, int want) {
        if (got != want) {
            wrong++;
            System.out.println("'" + sentence + "': " + what + " answered " + got + ", due is " + want);
        }
    }

    /** A ship comes and anchors at once. */
    protected final void lay(int draught, int chain, int side, int atX, int atY) {
        int a = x.told(4);
        int k = x.arrive(draught, chain, side);
        due("lay at " + atX + ", " + atY, x.anchor(k, atX, atY), a);
    }

    /** Ships of draught 1, chain 0, side 1 in the cells from atX on. */
    protected final void layRow(int count, int atX, int atY) {
        for (int i = 0; i < count; i++) {
            lay(1, 0, 1, atX + i, atY);
        }
    }

    protected final void end() {
        System.out.println(wrong == 0 ? "all answers are as due" : wrong + " answers are not as due");
        if (wrong != 0) {
            System.exit(1);
        }
    }
}
