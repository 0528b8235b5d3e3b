import com.sun.source.tree.AssertTree;
import com.sun.source.tree.BinaryTree;
import com.sun.source.tree.BlockTree;
import com.sun.source.tree.CatchTree;
import com.sun.source.tree.ClassTree;
import com.sun.source.tree.CompilationUnitTree;
import com.sun.source.tree.DoWhileLoopTree;
import com.sun.source.tree.ForLoopTree;
import com.sun.source.tree.ImportTree;
import com.sun.source.tree.LambdaExpressionTree;
import com.sun.source.tree.LiteralTree;
import com.sun.source.tree.MemberReferenceTree;
import com.sun.source.tree.MethodInvocationTree;
import com.sun.source.tree.MethodTree;
import com.sun.source.tree.NewArrayTree;
import com.sun.source.tree.NewClassTree;
import com.sun.source.tree.SynchronizedTree;
import com.sun.source.tree.ThrowTree;
import com.sun.source.tree.Tree;
import com.sun.source.tree.TryTree;
import com.sun.source.tree.VariableTree;
import com.sun.source.tree.WhileLoopTree;
import com.sun.source.util.JavacTask;
import com.sun.source.util.TreePathScanner;
import com.sun.source.util.Trees;
import java.io.IOException;
import java.nio.file.Path;
import java.util.List;
import java.util.Map;
import java.util.Set;
import java.util.TreeMap;
import java.util.TreeSet;
import javax.lang.model.element.Element;
import javax.lang.model.element.Modifier;
import javax.tools.JavaCompiler;
import javax.tools.StandardJavaFileManager;
import javax.tools.ToolProvider;

/** The class keeps to LANGUAGE.md, as far as its source shows it; FaceTest has the rest of rule 1. */
public final class LanguageTest {
    private static final Due DUE = new Due("LANGUAGE.md");
    private static final Path SOURCE = Path.of("src", "main", "java", "LeachRows.java");

    private static final Set<String> IMPORTS = Set.of("java.util.ArrayList", "java.util.List", "java.util.Arrays",
        "java.util.Iterator", "java.util.NoSuchElementException");
    private static final Set<String> THROWN = Set.of("IllegalStateException", "IllegalArgumentException",
        "IndexOutOfBoundsException", "ArithmeticException", "UnsupportedOperationException",
        "NoSuchElementException", "RuntimeException");
    /** The library, by class; of Integer, Long and Math all static functions but the exact ones. */
    private static final Map<String, Set<String>> LIBRARY = Map.of(
        "java.lang.String",
        Set.of("length", "charAt", "isEmpty", "equals", "indexOf", "substring", "toCharArray"),
        "java.lang.StringBuilder",
        Set.of("append", "charAt", "setCharAt", "setLength", "deleteCharAt", "reverse", "length", "toString"),
        "java.util.ArrayList", Set.of("add", "get", "set", "remove", "size", "isEmpty", "clear"),
        "java.util.List", Set.of("add", "get", "set", "remove", "size", "isEmpty", "clear", "of"),
        "java.lang.System", Set.of("arraycopy"),
        "java.util.Arrays", Set.of("copyOf", "copyOfRange", "fill"));
    private static final Set<String> NUMBERS = Set.of("java.lang.Integer", "java.lang.Long", "java.lang.Math");
    private static final Set<String> CONSTANTS = Set.of("int", "long", "boolean", "char", "String");

    private static final int MOST_PARAMETERS = 7;
    private static final int MOST_LINES = 60;
    private static final int MOST_CLASSES = 12;
    private static final int MOST_FIELDS = 20;
    private static final int DEEPEST_CALL = 8;

    public static void main(String[] args) throws IOException {
        JavaCompiler compiler = ToolProvider.getSystemJavaCompiler();
        try (StandardJavaFileManager files = compiler.getStandardFileManager(null, null, null)) {
            JavacTask task = (JavacTask) compiler.getTask(null, files, null, List.of("-proc:none"), null,
                files.getJavaFileObjects(SOURCE));
            CompilationUnitTree file = task.parse().iterator().next();
            task.analyze();
            Reader reader = new Reader(file, Trees.instance(task));
            reader.scan(file, null);
            reader.lookAtTheWhole();
        }
        DUE.end();
    }

    /** Goes through the source once, and keeps which method calls which. */
    private static final class Reader extends TreePathScanner<Void, Void> {
        private final CompilationUnitTree file;
        private final Trees trees;
        private final Map<String, Set<String>> calls = new TreeMap<>();
        private String method = "";
        private boolean inConstructor;
        private int classes;

        Reader(CompilationUnitTree file, Trees trees) {
            this.file = file;
            this.trees = trees;
        }

        void lookAtTheWhole() {
            DUE.no("a package line", file.getPackageName() != null);
            DUE.yes("rule 11: at most 12 classes", classes <= MOST_CLASSES);
            for (String each : calls.keySet()) {
                DUE.yes("rule 11: " + each + " goes at most eight deep", depth(each, 1) <= DEEPEST_CALL);
            }
        }

        /** How many calls stand open at most below this one; a ring of calls counts as too deep. */
        private int depth(String each, int open) {
            int deepest = open;
            if (open <= DEEPEST_CALL) {
                for (String next : calls.getOrDefault(each, Set.of())) {
                    deepest = Math.max(deepest, depth(next, open + 1));
                }
            }
            return deepest;
        }

        private void never(int rule, Tree what) {
            long line = file.getLineMap().getLineNumber(start(what));
            DUE.no("rule " + rule + ", line " + line + ": " + what, true);
        }

        private void only(int rule, Tree what, boolean holds) {
            if (holds) {
                DUE.yes("rule " + rule, true);
            } else {
                never(rule, what);
            }
        }

        private long start(Tree what) {
            return trees.getSourcePositions().getStartPosition(file, what);
        }

        private long linesOf(Tree what) {
            long end = trees.getSourcePositions().getEndPosition(file, what);
            return file.getLineMap().getLineNumber(end) - file.getLineMap().getLineNumber(start(what)) + 1;
        }

        @Override
        public Void visitImport(ImportTree tree, Void none) {
            only(4, tree, !tree.isStatic() && IMPORTS.contains(tree.getQualifiedIdentifier().toString()));
            return super.visitImport(tree, none);
        }

        @Override
        public Void visitClass(ClassTree tree, Void none) {
            classes++;
            int fields = 0;
            for (Tree member : tree.getMembers()) {
                if (member instanceof VariableTree) {
                    VariableTree field = (VariableTree) member;
                    boolean isStatic = field.getModifiers().getFlags().contains(Modifier.STATIC);
                    fields += isStatic ? 0 : 1;
                    only(5, field, !isStatic || isConstant(field));
                } else if (member instanceof BlockTree) {
                    only(5, member, !((BlockTree) member).isStatic());
                }
            }
            only(11, tree, fields <= MOST_FIELDS);
            return super.visitClass(tree, none);
        }

        private boolean isConstant(VariableTree field) {
            boolean isFinal = field.getModifiers().getFlags().contains(Modifier.FINAL);
            return isFinal && field.getInitializer() != null && (CONSTANTS.contains(field.getType().toString())
                || field.getInitializer() instanceof NewArrayTree);
        }

        @Override
        public Void visitMethod(MethodTree tree, Void none) {
            method = nameOf(trees.getElement(getCurrentPath()));
            inConstructor = tree.getReturnType() == null;
            calls.put(method, new TreeSet<>());
            only(11, tree, tree.getParameters().size() <= MOST_PARAMETERS);
            only(11, tree, linesOf(tree) <= MOST_LINES);
            only(6, tree, !Set.of("equals", "hashCode", "toString").contains(tree.getName().toString()));
            return super.visitMethod(tree, none);
        }

        private static String nameOf(Element element) {
            return element.getEnclosingElement() + "." + element;
        }

        @Override
        public Void visitMethodInvocation(MethodInvocationTree tree, Void none) {
            Element called = trees.getElement(getCurrentPath());
            String owner = called.getEnclosingElement().toString();
            if (owner.equals("LeachRows") || owner.startsWith("LeachRows.")) {
                calls.getOrDefault(method, new TreeSet<>()).add(nameOf(called));
            } else if (!tree.toString().equals("super()")) {
                only(4, tree, isInLibrary(owner, called));
            }
            return super.visitMethodInvocation(tree, none);
        }

        private static boolean isInLibrary(String owner, Element called) {
            String name = called.getSimpleName().toString();
            return LIBRARY.getOrDefault(owner, Set.of()).contains(name)
                || NUMBERS.contains(owner) && called.getModifiers().contains(Modifier.STATIC)
                    && !name.endsWith("Exact") && !called.toString().contains("double")
                    && !called.toString().contains("float") && !called.toString().contains("String");
        }

        @Override
        public Void visitNewClass(NewClassTree tree, Void none) {
            String owner = trees.getElement(getCurrentPath()).getEnclosingElement().toString();
            only(4, tree, owner.startsWith("LeachRows") || LIBRARY.containsKey(owner)
                || THROWN.contains(tree.getIdentifier().toString()));
            return super.visitNewClass(tree, none);
        }

        @Override
        public Void visitThrow(ThrowTree tree, Void none) {
            only(6, tree, !inConstructor && tree.getExpression() instanceof NewClassTree
                && THROWN.contains(((NewClassTree) tree.getExpression()).getIdentifier().toString()));
            return super.visitThrow(tree, none);
        }

        @Override
        public Void visitTry(TryTree tree, Void none) {
            only(6, tree, tree.getFinallyBlock() == null && tree.getResources().isEmpty());
            return super.visitTry(tree, none);
        }

        @Override
        public Void visitCatch(CatchTree tree, Void none) {
            // the document asks for no exception: what could be caught, only the machine would throw
            never(6, tree);
            return super.visitCatch(tree, none);
        }

        @Override
        public Void visitLambdaExpression(LambdaExpressionTree tree, Void none) {
            never(2, tree);
            return super.visitLambdaExpression(tree, none);
        }

        @Override
        public Void visitMemberReference(MemberReferenceTree tree, Void none) {
            never(2, tree);
            return super.visitMemberReference(tree, none);
        }

        @Override
        public Void visitSynchronized(SynchronizedTree tree, Void none) {
            never(6, tree);
            return super.visitSynchronized(tree, none);
        }

        @Override
        public Void visitAssert(AssertTree tree, Void none) {
            never(6, tree);
            return super.visitAssert(tree, none);
        }

        @Override
        public Void visitBinary(BinaryTree tree, Void none) {
            String type = String.valueOf(trees.getTypeMirror(getCurrentPath()));
            only(10, tree, !(tree.getKind() == Tree.Kind.PLUS && type.equals("java.lang.String")));
            return super.visitBinary(tree, none);
        }

        @Override
        public Void visitForLoop(ForLoopTree tree, Void none) {
            only(9, tree, tree.getCondition() != null && !isTrue(tree.getCondition()));
            return super.visitForLoop(tree, none);
        }

        @Override
        public Void visitWhileLoop(WhileLoopTree tree, Void none) {
            only(9, tree, !tree.getCondition().toString().equals("(true)"));
            return super.visitWhileLoop(tree, none);
        }

        @Override
        public Void visitDoWhileLoop(DoWhileLoopTree tree, Void none) {
            only(9, tree, !tree.getCondition().toString().equals("(true)"));
            return super.visitDoWhileLoop(tree, none);
        }

        private static boolean isTrue(Tree condition) {
            return condition instanceof LiteralTree && Boolean.TRUE.equals(((LiteralTree) condition).getValue());
        }
    }
}
