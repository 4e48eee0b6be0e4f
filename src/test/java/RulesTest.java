import java.lang.management.ManagementFactory;
import java.lang.reflect.Field;
import java.lang.reflect.Member;
import java.lang.reflect.Method;
import java.lang.reflect.Modifier;
import java.nio.file.Files;
import java.nio.file.Path;
import java.util.ArrayList;
import java.util.Arrays;
import java.util.Collections;
import java.util.List;
import java.util.TreeSet;
import java.util.regex.Pattern;

/** The face of the class, words that LANGUAGE.md leaves out, what calls make, and calls of any numbers. */
public final class RulesTest {
    private static final Path SOURCE = Path.of("src/main/java/SwungShips.java");
    private static final String[] FACE = {"told 1", "cell 3", "ship 2", "waits 2", "moves 2", "lies 4", "harbour 2", "depth 3", "tide 1",
        "winds 1", "arrive 3", "anchor 3", "fit 1", "fitAll 0", "shift 1", "leave 1", "turnAway 1", "drift 1", "undo 1", "write 2",
        "tear 0", "seed 1", "keep 1", "goBack 1"};
    private static final String[] CONSTANTS = {"NONE", "UNKNOWN", "OUTSIDE", "NOT", "FULL"};
    private static final String[] LEFT_OUT = {"throw", "throws", "try", "catch", "synchronized", "assert", "import", "package", "hashCode",
        "equals", "toString", "\\w+Exact", "->", "::"};
    private static final int[] NUMBERS = {Integer.MIN_VALUE, -1000000000, -8, -1, 0, 1, 2, 3, 4, 5, 7, 8, 9, 16, 17, 63, 64, 255, 256,
        65536, Integer.MAX_VALUE};
    private static final SwungShips FULL_ONE = full();
    private static int wrong = 0;

    private static void require(boolean is, String what) {
        if (!is) {
            wrong++;
            System.out.println("not so: " + what);
        }
    }

    public static void main(String[] args) throws Exception {
        face();
        nested();
        words();
        anyNumbers();
        makesNothing();
        isSmall();
        if (wrong != 0) {
            System.exit(1);
        }
        System.out.println("the rules are kept");
    }

    private static void face() {
        Class<?> c = SwungShips.class;
        require(Modifier.isPublic(c.getModifiers()) && Modifier.isFinal(c.getModifiers()), "the class is public and final");
        require(c.getDeclaredConstructors().length == 1, "one constructor");
        require(c.getConstructors().length == 1 && c.getConstructors()[0].getParameterCount() == 0, "it is public and takes nothing");
        TreeSet<String> methods = new TreeSet<>();
        for (Method m : c.getDeclaredMethods()) {
            if (!Modifier.isPrivate(m.getModifiers())) {
                methods.add(m.getName() + " " + m.getParameterCount());
                require(m.getReturnType() == int.class, m + " answers int");
                require(Modifier.isPublic(m.getModifiers()) && !Modifier.isStatic(m.getModifiers()), m + " is public");
            }
        }
        require(methods.equals(new TreeSet<>(Arrays.asList(FACE))), "the methods are those of the face: " + methods);
        TreeSet<String> fields = new TreeSet<>();
        for (Field f : c.getDeclaredFields()) {
            if (!Modifier.isPrivate(f.getModifiers())) {
                fields.add(f.getName());
            }
        }
        require(fields.equals(new TreeSet<>(Arrays.asList(CONSTANTS))), "the constants are those of the face: " + fields);
    }

    private static void nested() {
        List<String> names = new ArrayList<>();
        for (String method : FACE) {
            names.add(method.split(" ")[0]);
        }
        List<Class<?>> classes = new ArrayList<>(Arrays.asList(SwungShips.class.getDeclaredClasses()));
        require(classes.size() <= 11, "some twelve classes at most");
        for (Class<?> c : classes) {
            require(Modifier.isStatic(c.getModifiers()), c + " is static");
            for (Method m : c.getDeclaredMethods()) {
                require(!names.contains(m.getName()), m + " bears no name of the face");
                require(m.getParameterCount() <= 7, m + " takes seven at most");
            }
        }
        classes.add(SwungShips.class);
        for (Class<?> c : classes) {
            for (Field f : c.getDeclaredFields()) {
                require(!Modifier.isStatic(f.getModifiers()) || Modifier.isFinal(f.getModifiers()), f + " is no static state");
            }
            for (Member m : c.getDeclaredMethods()) {
                boolean own = !Modifier.isPublic(m.getModifiers());
                require(!own || !names.contains(m.getName()), m + " bears no name of the face");
            }
        }
    }

    private static void words() throws Exception {
        String code = Files.readString(SOURCE).replaceAll("(?s)/\\*.*?\\*/", "").replaceAll("//[^\n]*", "");
        for (String word : LEFT_OUT) {
            boolean letters = Character.isLetter(word.charAt(0)) || word.startsWith("\\");
            Pattern p = Pattern.compile(letters ? "\\b" + word + "\\b" : word);
            require(!p.matcher(code).find(), "'" + word + "' does not stand in the program");
        }
        require(code.chars().allMatch(ch -> ch < 128), "plain signs only");
    }

    /** A harbour with ships at anchor and ships that wait, so that no call is refused for want of them. */
    private static SwungShips full() {
        SwungShips x = new SwungShips();
        x.harbour(7, 7);
        x.winds(1);
        for (int i = 0; i < 5; i++) {
            x.arrive(1, i % 3, 1 + i % 2);
            x.fit(0);
        }
        for (int i = 0; i < 3; i++) {
            x.arrive(5, i, 2);
        }
        return x;
    }

    private static void anyNumbers() throws Exception {
        for (Method m : SwungShips.class.getDeclaredMethods()) {
            if (Modifier.isPublic(m.getModifiers())) {
                anyNumbers(m, new Object[m.getParameterCount()], 0);
            }
        }
    }

    private static void anyNumbers(Method m, Object[] args, int i) throws Exception {
        if (i == args.length) {
            // One object for all calls of many numbers: a new one each time would take long.
            SwungShips x = args.length < 3 ? full() : FULL_ONE;
            try {
                m.invoke(x, args);
            } catch (java.lang.reflect.InvocationTargetException e) {
                require(false, m.getName() + Arrays.toString(args) + " never throws: " + e.getCause());
            }
            return;
        }
        for (int v : NUMBERS) {
            args[i] = v;
            anyNumbers(m, args, i + 1);
        }
    }

    private static long madeBytes() {
        return ((com.sun.management.ThreadMXBean) ManagementFactory.getThreadMXBean()).getThreadAllocatedBytes(Thread.currentThread().getId());
    }

    private static long madeByRun() {
        SwungShips x = full();
        long before = madeBytes();
        for (int k = 0; k < 3; k++) {
            for (int what = 0; what < 8; what++) {
                x.waits(k, what);
                x.ship(k, what);
                x.moves(k, what);
                x.cell(k, k, what);
            }
        }
        for (int what = 0; what < 15; what++) {
            x.told(what);
        }
        x.leave(0);
        x.shift(0);
        x.turnAway(0);
        x.leave(0);
        x.leave(0);
        x.arrive(1, 0, 1);
        x.fitAll();
        x.fit(0);
        x.drift(12);
        x.depth(1, 1, 1);
        x.tide(1);
        x.undo(9);
        x.write(0, 1);
        x.tear();
        x.keep(0);
        x.goBack(0);
        x.harbour(3, 3);
        return madeBytes() - before;
    }

    private static void makesNothing() {
        List<Long> made = new ArrayList<>();
        List<Long> byAsking = new ArrayList<>();
        for (int i = 0; i < 20; i++) {
            made.add(madeByRun());
            long before = madeBytes();
            byAsking.add(madeBytes() - before);
        }
        require(Collections.min(made).equals(Collections.min(byAsking)), "calls make no objects: " + made + ", of these " + byAsking);
    }

    private static void isSmall() {
        long before = madeBytes();
        for (int i = 0; i < 100; i++) {
            new SwungShips();
        }
        long each = (madeBytes() - before) / 100;
        require(each < 20000, "an object takes " + each + " bytes");
    }
}
