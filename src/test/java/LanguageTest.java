import com.sun.source.tree.AssertTree;
import com.sun.source.tree.BlockTree;
import com.sun.source.tree.ClassTree;
import com.sun.source.tree.CompilationUnitTree;
import com.sun.source.tree.DoWhileLoopTree;
import com.sun.source.tree.ExpressionTree;
import com.sun.source.tree.ForLoopTree;
import com.sun.source.tree.IdentifierTree;
import com.sun.source.tree.ImportTree;
import com.sun.source.tree.LambdaExpressionTree;
import com.sun.source.tree.LiteralTree;
import com.sun.source.tree.MemberReferenceTree;
import com.sun.source.tree.MemberSelectTree;
import com.sun.source.tree.MethodInvocationTree;
import com.sun.source.tree.MethodTree;
import com.sun.source.tree.NewArrayTree;
import com.sun.source.tree.NewClassTree;
import com.sun.source.tree.SynchronizedTree;
import com.sun.source.tree.ThrowTree;
import com.sun.source.tree.Tree;
import com.sun.source.tree.TryTree;
import com.sun.source.tree.VariableTree;
import com.sun.source.tree.WhileLoopTree;
import com.sun.source.util.JavacTask;
import com.sun.source.util.SourcePositions;
import com.sun.source.util.TreeScanner;
import com.sun.source.util.Trees;
import java.io.File;
import java.io.IOException;
import java.util.ArrayList;
import java.util.List;
import java.util.Map;
import java.util.Set;
import java.util.TreeMap;
import java.util.TreeSet;
import javax.lang.model.element.Modifier;
import javax.tools.JavaCompiler;
import javax.tools.StandardJavaFileManager;
import javax.tools.ToolProvider;

/** The class keeps to LANGUAGE.md, as far as that can be read off its text. */
public final class LanguageTest {
    private static final String SOURCE = "src/main/java/PairedTrees.java";
    // The name that the compiler gives to constructors.
    private static final String CONSTRUCTOR = "<init>";
    private static final Due DUE = new Due();

    private static final Set<String> IMPORTS =
            Set.of("java.util.Arrays", "java.util.ArrayList", "java.util.List", "java.util.Iterator");
    private static final Set<String> STATIC_CALLS =
            Set.of("System.arraycopy", "Arrays.copyOf", "Arrays.copyOfRange", "Arrays.fill", "List.of");
    private static final Set<String> STATIC_TYPES =
            Set.of("int", "long", "boolean", "char", "String", "int[]", "long[]", "char[]", "byte[]");
    // The document names the last two itself, for told.
    private static final Set<String> THROWN = Set.of(
            "IllegalStateException", "IllegalArgumentException", "IndexOutOfBoundsException",
            "ArithmeticException", "UnsupportedOperationException", "NoSuchElementException",
            "RuntimeException", "NullPointerException", "ArrayIndexOutOfBoundsException");

    private static final int MOST_PARAMETERS = 7;
    private static final int MOST_LINES = 60;
    private static final int DEEPEST_CALLS = 8;
    private static final int MOST_CLASSES = 12;
    private static final int MOST_FIELDS = 20;

    private final CompilationUnitTree unit;
    private final SourcePositions positions;
    private final Set<String> ownClasses = new TreeSet<>();
    private final Set<String> publicMethods = new TreeSet<>();
    private final Set<String> otherMethods = new TreeSet<>();
    private final Map<String, Set<String>> callsOf = new TreeMap<>();
    private final List<String> faults = new ArrayList<>();

    private LanguageTest(CompilationUnitTree unit, SourcePositions positions) {
        this.unit = unit;
        this.positions = positions;
    }

    public static void main(String[] args) throws IOException {
        JavaCompiler compiler = ToolProvider.getSystemJavaCompiler();
        try (StandardJavaFileManager files = compiler.getStandardFileManager(null, null, null)) {
            JavacTask task = (JavacTask) compiler.getTask(
                    null, files, null, null, null, files.getJavaFileObjects(new File(SOURCE)));
            for (CompilationUnitTree unit : task.parse()) {
                new LanguageTest(unit, Trees.instance(task).getSourcePositions()).read();
            }
        }
        DUE.end();
    }

    private void read() {
        unit.accept(new Names(), null);
        unit.accept(new Rules(), null);
        Set<String> shared = new TreeSet<>(otherMethods);
        shared.retainAll(publicMethods);
        DUE.check("rule 1: methods with a public one's name", shared.toString(), "[]");
        DUE.is("rule 11: classes within " + MOST_CLASSES, ownClasses.size() <= MOST_CLASSES ? 1 : 0, 1);
        for (String method : publicMethods) {
            int depth = depthBelow(method, 1);
            DUE.is("rule 11: " + method + " goes " + depth + " calls deep", depth <= DEEPEST_CALLS ? 1 : 0, 1);
        }
        DUE.check("all rules", faults.toString(), "[]");
    }

    /** Methods of one name are taken for one, so that no depth is told too small; a ring of calls has no end. */
    private int depthBelow(String method, int depth) {
        int deepest = depth;
        if (depth <= DEEPEST_CALLS) {
            for (String called : callsOf.getOrDefault(method, Set.of())) {
                deepest = Math.max(deepest, depthBelow(called, depth + 1));
            }
        }
        return deepest;
    }

    /** What the file itself names, which must be known before its uses are judged. */
    private final class Names extends TreeScanner<Void, Void> {
        @Override
        public Void visitClass(ClassTree tree, Void none) {
            ownClasses.add(tree.getSimpleName().toString());
            return super.visitClass(tree, none);
        }

        @Override
        public Void visitMethod(MethodTree tree, Void none) {
            String name = tree.getName().toString();
            callsOf.put(name, new TreeSet<>());
            if (tree.getModifiers().getFlags().contains(Modifier.PUBLIC)) {
                publicMethods.add(name);
            } else if (!name.equals(CONSTRUCTOR)) {
                otherMethods.add(name);
            }
            return super.visitMethod(tree, none);
        }
    }

    private final class Rules extends TreeScanner<Void, Void> {
        private String method = "";
        private boolean isThrown;

        private void fault(int rule, String what, Tree tree) {
            long line = unit.getLineMap().getLineNumber(positions.getStartPosition(unit, tree));
            faults.add("rule " + rule + ", line " + line + ": " + what);
        }

        @Override
        public Void visitImport(ImportTree tree, Void none) {
            if (!IMPORTS.contains(tree.getQualifiedIdentifier().toString()) || tree.isStatic()) {
                fault(4, "an import that is not listed", tree);
            }
            return null;
        }

        @Override
        public Void visitClass(ClassTree tree, Void none) {
            if (!method.isEmpty()) {
                fault(2, "a class in a method", tree);
            }
            int fields = 0;
            for (Tree member : tree.getMembers()) {
                if (member instanceof BlockTree) {
                    fault(5, "an initialiser block", member);
                }
                if (member instanceof VariableTree field && !isConstant(field)) {
                    fields++;
                }
            }
            if (fields > MOST_FIELDS) {
                fault(11, "too many fields", tree);
            }
            return super.visitClass(tree, none);
        }

        private boolean isConstant(VariableTree field) {
            Set<Modifier> flags = field.getModifiers().getFlags();
            if (!flags.contains(Modifier.STATIC)) {
                return false;
            }
            if (!flags.contains(Modifier.FINAL) || !STATIC_TYPES.contains(field.getType().toString())) {
                fault(5, "static state", field);
            }
            return true;
        }

        @Override
        public Void visitMethod(MethodTree tree, Void none) {
            long first = unit.getLineMap().getLineNumber(positions.getStartPosition(unit, tree));
            long last = unit.getLineMap().getLineNumber(positions.getEndPosition(unit, tree));
            if (last - first + 1 > MOST_LINES) {
                fault(11, "a long method", tree);
            }
            if (tree.getParameters().size() > MOST_PARAMETERS) {
                fault(11, "too many parameters", tree);
            }
            method = tree.getName().toString();
            super.visitMethod(tree, none);
            method = "";
            return null;
        }

        @Override
        public Void visitMethodInvocation(MethodInvocationTree tree, Void none) {
            ExpressionTree called = tree.getMethodSelect();
            String name = called.toString();
            if (called instanceof MemberSelectTree select) {
                name = select.getIdentifier().toString();
                if (isLibrary(select.getExpression())) {
                    judgeStaticCall(select);
                    scan(tree.getArguments(), none);
                    return null;
                }
            }
            if (!callsOf.containsKey(name)) {
                fault(4, name + " is not the file's own", tree);
            } else if (!method.isEmpty()) {
                callsOf.get(method).add(name);
            }
            return super.visitMethodInvocation(tree, none);
        }

        private void judgeStaticCall(MemberSelectTree call) {
            String name = call.toString();
            boolean isFunction = name.matches("(Math|Integer|Long)\\.\\w+") && !name.endsWith("Exact");
            if (!isFunction && !STATIC_CALLS.contains(name)) {
                fault(4, call + " is not listed", call);
            }
        }

        private boolean isLibrary(ExpressionTree tree) {
            return tree instanceof IdentifierTree name
                    && name.getName().toString().matches("[A-Z]\\w*[a-z]\\w*")
                    && !ownClasses.contains(name.getName().toString());
        }

        @Override
        public Void visitMemberSelect(MemberSelectTree tree, Void none) {
            if (isLibrary(tree.getExpression())) {
                fault(4, tree + " is not listed", tree);
            }
            return super.visitMemberSelect(tree, none);
        }

        @Override
        public Void visitThrow(ThrowTree tree, Void none) {
            boolean isPlain = tree.getExpression() instanceof NewClassTree made
                    && THROWN.contains(made.getIdentifier().toString())
                    && (made.getArguments().isEmpty() || made.getArguments().get(0) instanceof LiteralTree);
            if (!isPlain || method.equals(CONSTRUCTOR)) {
                fault(6, "a throw", tree);
            }
            isThrown = true;
            super.visitThrow(tree, none);
            isThrown = false;
            return null;
        }

        // Rules 6 and 12 leave more than this; but no call of this class has a need to make an object or to try.
        @Override
        public Void visitNewClass(NewClassTree tree, Void none) {
            if (!method.isEmpty() && !isThrown) {
                fault(12, "an object made by a call", tree);
            }
            return super.visitNewClass(tree, none);
        }

        @Override
        public Void visitNewArray(NewArrayTree tree, Void none) {
            if (!method.isEmpty()) {
                fault(12, "an array made by a call", tree);
            }
            return super.visitNewArray(tree, none);
        }

        @Override
        public Void visitTry(TryTree tree, Void none) {
            fault(6, "a try", tree);
            return super.visitTry(tree, none);
        }

        @Override
        public Void visitSynchronized(SynchronizedTree tree, Void none) {
            fault(6, "synchronized", tree);
            return super.visitSynchronized(tree, none);
        }

        @Override
        public Void visitAssert(AssertTree tree, Void none) {
            fault(6, "an assert", tree);
            return super.visitAssert(tree, none);
        }

        @Override
        public Void visitLambdaExpression(LambdaExpressionTree tree, Void none) {
            fault(2, "a lambda", tree);
            return super.visitLambdaExpression(tree, none);
        }

        @Override
        public Void visitMemberReference(MemberReferenceTree tree, Void none) {
            fault(2, "a method reference", tree);
            return super.visitMemberReference(tree, none);
        }

        @Override
        public Void visitForLoop(ForLoopTree tree, Void none) {
            if (tree.getCondition() == null || tree.getUpdate().isEmpty()) {
                fault(9, "a loop whose end is not seen", tree);
            }
            return super.visitForLoop(tree, none);
        }

        @Override
        public Void visitWhileLoop(WhileLoopTree tree, Void none) {
            fault(9, "a loop whose end this test cannot see", tree);
            return super.visitWhileLoop(tree, none);
        }

        @Override
        public Void visitDoWhileLoop(DoWhileLoopTree tree, Void none) {
            fault(9, "a loop whose end this test cannot see", tree);
            return super.visitDoWhileLoop(tree, none);
        }
    }
}
