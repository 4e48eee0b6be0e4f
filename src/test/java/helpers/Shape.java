import com.sun.source.tree.*;
import com.sun.source.util.JavacTask;
import com.sun.source.util.SourcePositions;
import com.sun.source.util.TreePath;
import com.sun.source.util.TreePathScanner;
import com.sun.source.util.Trees;
import java.io.IOException;
import java.net.URI;
import java.util.ArrayList;
import java.util.Collection;
import java.util.LinkedHashMap;
import java.util.LinkedHashSet;
import java.util.List;
import java.util.Map;
import java.util.Set;
import javax.lang.model.element.Element;
import javax.lang.model.element.ElementKind;
import javax.lang.model.element.ExecutableElement;
import javax.lang.model.element.Modifier;
import javax.lang.model.element.TypeElement;
import javax.lang.model.type.TypeKind;
import javax.lang.model.type.TypeMirror;
import javax.tools.JavaCompiler;
import javax.tools.JavaFileObject;
import javax.tools.SimpleJavaFileObject;
import javax.tools.ToolProvider;

/**
 * Reads a program as the compiler does and tells which of LANGUAGE.md's rules it breaks, as far as they
 * can be read off its tree. Where a rule leaves room, this is stricter, as the program is today: loops
 * are counted ones, objects are made by constructors alone, of the library only what is used stands here.
 */
public final class Shape extends TreePathScanner<Void, Void> {
    private static final int MOST_LINES = 60, MOST_PARAMETERS = 7, DEEPEST = 8, MOST_CLASSES = 12, MOST_FIELDS = 20;
    private static final Set<String> LIBRARY = Set.of("Math.max", "Math.min", "Math.floorMod", "Integer.bitCount", "Long.bitCount",
        "System.arraycopy");
    private static final Set<TypeKind> NUMBERS = Set.of(TypeKind.INT, TypeKind.LONG, TypeKind.BOOLEAN);
    /** What does not stand in the program, by the rule that leaves it out or that it would be looked at for. */
    private static final Map<Integer, Set<Tree.Kind>> LEFT_OUT = Map.of(
        2, Set.of(Tree.Kind.LAMBDA_EXPRESSION, Tree.Kind.MEMBER_REFERENCE),
        3, Set.of(Tree.Kind.DOUBLE_LITERAL, Tree.Kind.FLOAT_LITERAL, Tree.Kind.CHAR_LITERAL, Tree.Kind.STRING_LITERAL),
        4, Set.of(Tree.Kind.IMPORT, Tree.Kind.PACKAGE),
        6, Set.of(Tree.Kind.THROW, Tree.Kind.TRY, Tree.Kind.SYNCHRONIZED, Tree.Kind.ASSERT, Tree.Kind.TYPE_CAST),
        9, Set.of(Tree.Kind.WHILE_LOOP, Tree.Kind.DO_WHILE_LOOP, Tree.Kind.ENHANCED_FOR_LOOP));

    private final Trees trees;
    private final CompilationUnitTree unit;
    private final List<String> faults = new ArrayList<>();
    private final Map<Element, Set<Element>> calls = new LinkedHashMap<>();
    private int classes;

    private Shape(Trees trees, CompilationUnitTree unit) {
        this.trees = trees;
        this.unit = unit;
    }

    /** What is against the rules in a program; nothing, if none is. */
    public static List<String> faults(String program) throws IOException {
        JavaCompiler compiler = ToolProvider.getSystemJavaCompiler();
        JavaFileObject file = new SimpleJavaFileObject(URI.create("string:///SwungShips.java"), JavaFileObject.Kind.SOURCE) {
            @Override
            public CharSequence getCharContent(boolean ignore) {
                return program;
            }
        };
        List<String> unread = new ArrayList<>();
        JavacTask task = (JavacTask) compiler.getTask(null, null, d -> unread.add("does not compile: " + d), null, null, List.of(file));
        CompilationUnitTree unit = task.parse().iterator().next();
        task.analyze();
        if (!unread.isEmpty()) {
            return unread;
        }
        Shape shape = new Shape(Trees.instance(task), unit);
        shape.scan(unit, null);
        shape.lookAtCalls();
        return shape.faults;
    }

    private void require(boolean is, int rule, String what) {
        if (!is) {
            faults.add("rule " + rule + ": " + what);
        }
    }

    private Element here() {
        return trees.getElement(getCurrentPath());
    }

    private Element elementOf(Tree tree) {
        return trees.getElement(new TreePath(getCurrentPath(), tree));
    }

    private static boolean isOwn(Element e) {
        for (Element up = e; up != null; up = up.getEnclosingElement()) {
            if (up instanceof TypeElement && up.getSimpleName().contentEquals("SwungShips")) {
                return true;
            }
        }
        return false;
    }

    /** The method or constructor that the tree stands in; null: a field's initialiser. */
    private MethodTree methodAround() {
        for (TreePath up = getCurrentPath(); up != null; up = up.getParentPath()) {
            if (up.getLeaf() instanceof MethodTree m) {
                return m;
            }
        }
        return null;
    }

    private Element makerAround() {
        MethodTree m = methodAround();
        return m == null ? null : trees.getElement(trees.getPath(unit, m));
    }

    @Override
    public Void scan(Tree tree, Void p) {
        for (Map.Entry<Integer, Set<Tree.Kind>> e : LEFT_OUT.entrySet()) {
            require(tree == null || !e.getValue().contains(tree.getKind()), e.getKey(), tree + " stands in the program");
        }
        return super.scan(tree, p);
    }

    // ---- classes and fields

    @Override
    public Void visitClass(ClassTree tree, Void p) {
        classes++;
        require(classes <= MOST_CLASSES, 11, "more than " + MOST_CLASSES + " classes");
        boolean outer = getCurrentPath().getParentPath().getLeaf() == unit;
        boolean inClass = getCurrentPath().getParentPath().getLeaf() instanceof ClassTree;
        Set<Modifier> flags = tree.getModifiers().getFlags();
        require(outer || inClass && flags.contains(Modifier.STATIC), 2, tree.getSimpleName() + " is no static nested class");
        require(outer || !flags.contains(Modifier.PUBLIC) && !flags.contains(Modifier.PROTECTED), 1, tree.getSimpleName() + " can be seen");
        int fields = 0;
        for (Tree member : tree.getMembers()) {
            require(!(member instanceof BlockTree), 5, "an initialiser block in " + tree.getSimpleName());
            if (member instanceof VariableTree v && !v.getModifiers().getFlags().contains(Modifier.STATIC)) {
                fields++;
            }
        }
        require(fields <= MOST_FIELDS, 11, tree.getSimpleName() + " has " + fields + " fields");
        return super.visitClass(tree, p);
    }

    @Override
    public Void visitVariable(VariableTree tree, Void p) {
        TypeMirror type = trees.getTypeMirror(new TreePath(getCurrentPath(), tree.getType()));
        require(isNumberOrOwn(type), 3, tree + " has a type that is not used here");
        if (here().getKind() == ElementKind.FIELD && tree.getModifiers().getFlags().contains(Modifier.STATIC)) {
            require(tree.getModifiers().getFlags().contains(Modifier.FINAL), 5, tree + " is static state");
            boolean row = type.getKind() == TypeKind.ARRAY;
            require(row ? isRowOfLiterals(tree.getInitializer()) : NUMBERS.contains(type.getKind()), 5, tree + " is no constant");
        }
        return super.visitVariable(tree, p);
    }

    private boolean isNumberOrOwn(TypeMirror type) {
        if (type.getKind() == TypeKind.ARRAY) {
            TypeMirror of = ((javax.lang.model.type.ArrayType) type).getComponentType();
            return of.getKind() != TypeKind.ARRAY && isNumberOrOwn(of);
        }
        if (type.getKind() == TypeKind.DECLARED) {
            return isOwn(((javax.lang.model.type.DeclaredType) type).asElement());
        }
        return NUMBERS.contains(type.getKind());
    }

    private static boolean isRowOfLiterals(ExpressionTree tree) {
        if (!(tree instanceof NewArrayTree row) || row.getInitializers() == null) {
            return false;
        }
        for (ExpressionTree e : row.getInitializers()) {
            if (!(e instanceof LiteralTree) && !(e instanceof UnaryTree u && u.getExpression() instanceof LiteralTree)) {
                return false;
            }
        }
        return true;
    }

    private void lookAtChange(ExpressionTree changed) {
        if (changed instanceof ArrayAccessTree access) {
            Element row = elementOf(access.getExpression());
            require(row == null || !row.getModifiers().contains(Modifier.STATIC), 5, changed + " changes a constant");
        }
    }

    @Override
    public Void visitAssignment(AssignmentTree tree, Void p) {
        lookAtChange(tree.getVariable());
        return super.visitAssignment(tree, p);
    }

    @Override
    public Void visitCompoundAssignment(CompoundAssignmentTree tree, Void p) {
        lookAtChange(tree.getVariable());
        return super.visitCompoundAssignment(tree, p);
    }

    @Override
    public Void visitUnary(UnaryTree tree, Void p) {
        lookAtChange(tree.getExpression());
        return super.visitUnary(tree, p);
    }

    // ---- methods, what they call and make

    @Override
    public Void visitMethod(MethodTree tree, Void p) {
        calls.computeIfAbsent(here(), e -> new LinkedHashSet<>());
        require(tree.getParameters().size() <= MOST_PARAMETERS, 11, tree.getName() + " takes " + tree.getParameters().size());
        long lines = lineAt(tree, true) - lineAt(tree, false) + 1;
        require(lines <= MOST_LINES, 11, tree.getName() + " has " + lines + " lines");
        lookAtSight(tree);
        return super.visitMethod(tree, p);
    }

    private void lookAtSight(MethodTree tree) {
        Set<Modifier> flags = tree.getModifiers().getFlags();
        boolean nested = here().getEnclosingElement().getEnclosingElement().getKind() != ElementKind.PACKAGE;
        if (nested) {
            require(!flags.contains(Modifier.PUBLIC) && !flags.contains(Modifier.PROTECTED), 1, tree.getName() + " can be seen");
        } else {
            require(flags.contains(Modifier.PUBLIC) || flags.contains(Modifier.PRIVATE), 1, tree.getName() + " is neither public nor private");
        }
    }

    private long lineAt(Tree tree, boolean end) {
        SourcePositions at = trees.getSourcePositions();
        long position = end ? at.getEndPosition(unit, tree) : at.getStartPosition(unit, tree);
        return position < 0 ? 0 : unit.getLineMap().getLineNumber(position);
    }

    @Override
    public Void visitMethodInvocation(MethodInvocationTree tree, Void p) {
        Element called = here();
        if (isOwn(called)) {
            noteCall(called);
        } else if (!tree.toString().equals("super()")) {
            String name = called.getEnclosingElement().getSimpleName() + "." + called.getSimpleName();
            require(LIBRARY.contains(name), 4, name + " is not used here");
        }
        return super.visitMethodInvocation(tree, p);
    }

    private void noteCall(Element called) {
        Element from = makerAround();
        if (from != null) {
            calls.computeIfAbsent(from, e -> new LinkedHashSet<>()).add(called);
        }
    }

    @Override
    public Void visitNewClass(NewClassTree tree, Void p) {
        require(tree.getClassBody() == null, 2, "a class without a name: " + tree);
        require(isOwn(here()), 4, tree + " makes what is not the program's own");
        noteCall(here());
        requireMaker(tree);
        return super.visitNewClass(tree, p);
    }

    @Override
    public Void visitNewArray(NewArrayTree tree, Void p) {
        requireMaker(tree);
        return super.visitNewArray(tree, p);
    }

    private void requireMaker(Tree tree) {
        MethodTree m = methodAround();
        require(m == null || m.getName().contentEquals("<init>"), 12, tree + " is made by " + (m == null ? "" : m.getName()));
    }

    // ---- loops

    @Override
    public Void visitForLoop(ForLoopTree tree, Void p) {
        Element counter = tree.getInitializer().size() == 1 ? elementOf(tree.getInitializer().get(0)) : null;
        String name = counter == null ? "" : counter.getSimpleName().toString();
        require(counter != null && tree.getCondition() != null && boundOf(tree.getCondition(), name), 9, "no bound in: for " + tree.getCondition());
        require(tree.getUpdate().size() == 1 && tree.getUpdate().get(0).toString().equals(name + "++;"), 9, name + " does not rise by one");
        require(!new Changes(name).in(tree.getStatement()), 9, name + " is changed in its loop");
        return super.visitForLoop(tree, p);
    }

    /** Whether the condition, or one of those that are joined by 'and', has the counter below a bound. */
    private static boolean boundOf(ExpressionTree condition, String name) {
        if (condition instanceof ParenthesizedTree inner) {
            return boundOf(inner.getExpression(), name);
        }
        if (!(condition instanceof BinaryTree b)) {
            return false;
        }
        if (b.getKind() == Tree.Kind.CONDITIONAL_AND) {
            return boundOf(b.getLeftOperand(), name) || boundOf(b.getRightOperand(), name);
        }
        boolean below = b.getKind() == Tree.Kind.LESS_THAN || b.getKind() == Tree.Kind.LESS_THAN_EQUAL;
        String left = b.getLeftOperand().toString();
        return below && (left.equals(name) || left.equals(name + " + 1"));
    }

    /** Looks for changes of one variable. */
    private static final class Changes extends com.sun.source.util.TreeScanner<Boolean, Void> {
        private final String name;

        Changes(String name) {
            this.name = name;
        }

        boolean in(Tree tree) {
            return Boolean.TRUE.equals(scan(tree, null));
        }

        private boolean isIt(Tree tree) {
            return tree.toString().equals(name);
        }

        @Override
        public Boolean reduce(Boolean a, Boolean b) {
            return Boolean.TRUE.equals(a) || Boolean.TRUE.equals(b);
        }

        @Override
        public Boolean visitAssignment(AssignmentTree tree, Void p) {
            return reduce(isIt(tree.getVariable()), super.visitAssignment(tree, p));
        }

        @Override
        public Boolean visitCompoundAssignment(CompoundAssignmentTree tree, Void p) {
            return reduce(isIt(tree.getVariable()), super.visitCompoundAssignment(tree, p));
        }

        @Override
        public Boolean visitUnary(UnaryTree tree, Void p) {
            boolean steps = tree.getKind().name().contains("CREMENT");
            return reduce(steps && isIt(tree.getExpression()), super.visitUnary(tree, p));
        }
    }

    // ---- the calls as a whole

    private void lookAtCalls() {
        for (Element from : calls.keySet()) {
            if (reaches(from).contains(from)) {
                lookAtRecursion((ExecutableElement) from);
            }
            int deep = depthFrom(from, new LinkedHashSet<>());
            require(deep <= DEEPEST, 11, from + " goes " + deep + " deep");
        }
    }

    private void lookAtRecursion(ExecutableElement e) {
        require(e.getModifiers().contains(Modifier.PRIVATE), 8, e + " calls itself and is not private");
        boolean carries = false;
        for (Element parameter : e.getParameters()) {
            carries |= parameter.getSimpleName().contentEquals("level") && parameter.asType().getKind() == TypeKind.INT;
        }
        require(carries, 8, e + " calls itself and carries no level");
    }

    private Set<Element> reaches(Element from) {
        Set<Element> reached = new LinkedHashSet<>(calls.getOrDefault(from, Set.of()));
        List<Element> open = new ArrayList<>(reached);
        while (!open.isEmpty()) {
            Collection<Element> next = calls.getOrDefault(open.remove(open.size() - 1), Set.of());
            for (Element e : next) {
                if (reached.add(e)) {
                    open.add(e);
                }
            }
        }
        return reached;
    }

    /** The longest way of calls, this one counted, on which no method stands twice. */
    private int depthFrom(Element from, Set<Element> above) {
        if (!above.add(from)) {
            return 0;
        }
        int deepest = 0;
        for (Element to : calls.getOrDefault(from, Set.of())) {
            deepest = Math.max(deepest, depthFrom(to, above));
        }
        above.remove(from);
        return deepest + 1;
    }
}
