import java.nio.file.Files;
import java.nio.file.Path;
import java.util.List;

/** LANGUAGE.md's rules that can be read off the program's tree; small programs that break them are noticed. */
public final class ShapeTest {
    private static final Path SOURCE = Path.of("src/main/java/SwungShips.java");
    private static int wrong = 0;

    private static void require(boolean is, String what) {
        if (!is) {
            wrong++;
            System.out.println("not so: " + what);
        }
    }

    public static void main(String[] args) throws Exception {
        for (String fault : Shape.faults(Files.readString(SOURCE))) {
            require(false, "the class keeps to " + fault);
        }
        clean();
        noticed();
        noticedLoops();
        noticedCalls();
        noticedSize();
        if (wrong != 0) {
            System.exit(1);
        }
        System.out.println("the program has the shape that is due");
    }

    /** A program with these members, of which a rule is due to be broken (0: none). */
    private static void due(int rule, String members) throws Exception {
        List<String> faults = Shape.faults("public final class SwungShips {\n" + members + "\n}");
        boolean is = rule == 0 ? faults.isEmpty() : !faults.isEmpty() && faults.stream().allMatch(f -> f.startsWith("rule " + rule + ":"));
        require(is, "rule " + rule + " alone is broken by " + members + ", told was " + faults);
    }

    private static void clean() throws Exception {
        due(0, "public SwungShips() { }");
        due(0, "private static final int[] ROW = {1, -2}; private final int[] row = new int[2]; public int a(int i) { return ROW[0] + row[1]; }");
        due(0, "private static final class Part { int v; Part() { v = 1; } } private final Part p = new Part(); public int a() { return p.v; }");
        due(0, "public int a(int n) { int s = 0; for (int i = 0; i < n && s < 9; i++) { s += i; } return s; }");
        due(0, "private int b(int level) { return level > 3 ? 0 : b(level + 1); } public int a() { return Math.max(1, b(0)); }");
    }

    private static void noticed() throws Exception {
        due(1, "int a() { return 1; }");
        due(1, "protected int a() { return 1; }");
        due(1, "public static final class Part { }");
        due(1, "private static final class Part { public int a() { return 1; } }");
        due(2, "private final class Part { }");
        due(2, "public int a() { class Part { } return 1; }");
        due(3, "private final double half = 1;");
        due(3, "private final String text = null;");
        due(3, "private int[][] rows;");
        due(3, "public int a(int v) { return v + 'a'; }");
        due(4, "public int a(int v) { return Math.addExact(v, 1); }");
        due(4, "public long a() { return System.nanoTime(); }");
        due(4, "private final boolean is = new Object() == null;");
        due(5, "private static int state = 0;");
        due(5, "private static final int[] ROW = new int[3];");
        due(5, "private static final int[] ROW = {1}; public int a() { ROW[0] = 2; return 1; }");
        due(5, "private static final int[] ROW = {1}; public int a() { ROW[0]++; return 1; }");
        due(5, "private int v; { v = 1; }");
        due(6, "public int a() { throw null; }");
        due(6, "public int a() { assert true; return 1; }");
        due(6, "public int a() { synchronized (this) { return 1; } }");
        due(6, "public int a() { try { return 1; } finally { } }");
        due(6, "public int a(long v) { return (int) v; }");
    }

    private static void noticedLoops() throws Exception {
        due(9, "public int a(int n) { do { n--; } while (n > 0); return 1; }");
        due(9, "public int a(int[] row) { for (int v : row) { return v; } return 1; }");
        due(9, "public int a(int n) { while (n > 0) { n--; } return 1; }");
        due(9, "public int a(int n) { for (;;) { } }");
        due(9, "public int a(int n) { for (int i = 0; n > 1; i++) { } return 1; }");
        due(9, "public int a(int n) { for (int i = 0; i != n; i++) { } return 1; }");
        due(9, "public int a(int n) { for (int i = 0; i < n || n < 3; i++) { } return 1; }");
        due(9, "public int a(int n) { for (int i = 0; i < n; i--) { } return 1; }");
        due(9, "public int a(int n) { for (int i = 0; i < n; i++) { i = 0; } return 1; }");
        due(9, "public int a(int n) { for (int i = 0; i < n; i++) { i -= 2; } return 1; }");
        due(9, "public int a(int n) { for (int i = 0; i < n; i++) { --i; } return 1; }");
    }

    private static void noticedCalls() throws Exception {
        due(8, "private int b(int v) { return v > 3 ? 0 : b(v + 1); }");
        due(8, "public int b(int level) { return level > 3 ? 0 : b(level + 1); }");
        due(11, "public int a(int a, int b, int c, int d, int e, int f, int g, int h) { return 1; }");
        due(11, "public int a() {" + "\n".repeat(61) + "return 1; }");
        due(12, "public int a() { return new int[3].length; }");
        due(12, "private static final class Part { } public int a() { Part p = new Part(); return p == null ? 0 : 1; }");
        StringBuilder chain = new StringBuilder("private int b1() { return 1; } ");
        for (int i = 2; i <= 8; i++) {
            chain.append("private int b" + i + "() { return b" + (i - 1) + "(); } ");
        }
        due(0, chain.toString());
        due(11, chain + "public int a() { return b8(); }");
    }

    private static void noticedSize() throws Exception {
        StringBuilder fields = new StringBuilder();
        StringBuilder classes = new StringBuilder();
        for (int i = 1; i <= 20; i++) {
            fields.append("private int f" + i + "; ");
        }
        for (int i = 1; i <= 11; i++) {
            classes.append("private static final class Part" + i + " { } ");
        }
        due(0, fields.toString());
        due(11, fields + "private int f21;");
        due(0, classes.toString());
        due(11, classes + "private static final class Part12 { }");
    }
}
