import com.sun.source.tree.ArrayAccessTree;
import com.sun.source.tree.AssertTree;
import com.sun.source.tree.AssignmentTree;
import com.sun.source.tree.BinaryTree;
import com.sun.source.tree.BlockTree;
import com.sun.source.tree.ClassTree;
import com.sun.source.tree.CompilationUnitTree;
import com.sun.source.tree.CompoundAssignmentTree;
import com.sun.source.tree.DoWhileLoopTree;
import com.sun.source.tree.ExpressionTree;
import com.sun.source.tree.ForLoopTree;
import com.sun.source.tree.ImportTree;
import com.sun.source.tree.InstanceOfTree;
import com.sun.source.tree.LambdaExpressionTree;
import com.sun.source.tree.LiteralTree;
import com.sun.source.tree.MemberReferenceTree;
import com.sun.source.tree.MethodInvocationTree;
import com.sun.source.tree.MethodTree;
import com.sun.source.tree.NewArrayTree;
import com.sun.source.tree.NewClassTree;
import com.sun.source.tree.SynchronizedTree;
import com.sun.source.tree.ThrowTree;
import com.sun.source.tree.Tree;
import com.sun.source.tree.TryTree;
import com.sun.source.tree.TypeCastTree;
import com.sun.source.tree.UnaryTree;
import com.sun.source.tree.VariableTree;
import com.sun.source.tree.WhileLoopTree;
import com.sun.source.util.JavacTask;
import com.sun.source.util.TreePathScanner;
import com.sun.source.util.Trees;
import java.io.IOException;
import java.nio.file.Files;
import java.nio.file.Path;
import java.util.ArrayList;
import java.util.List;
import java.util.Map;
import java.util.Set;
import java.util.TreeMap;
import java.util.TreeSet;
import javax.lang.model.element.Element;
import javax.lang.model.element.ElementKind;
import javax.lang.model.element.Modifier;
import javax.lang.model.type.TypeMirror;
import javax.tools.JavaCompiler;
import javax.tools.StandardJavaFileManager;
import javax.tools.ToolProvider;

/** The rules of ../shared/LANGUAGE.md that can be read off the program's text, by the compiler's own reading of it. */
public final class LanguageTest {
    private static final Path SOURCE = Path.of("src/main/java/NameGuard.java");
    private static final Set<String> IMPORTS = Set.of("java.util.Arrays", "java.util.ArrayList", "java.util.List",
        "java.util.Iterator");
    private static final Set<String> PLAIN_TYPES = Set.of("int", "long", "short", "byte", "char", "boolean", "double",
        "float");
    private static final Set<String> LIBRARY_TYPES = Set.of("java.lang.String", "java.lang.StringBuilder",
        "java.lang.Integer");
    private static final Set<String> STATIC_TYPES = Set.of("int", "long", "boolean", "char", "java.lang.String",
        "int[]", "long[]", "char[]", "byte[]");
    /** Of what rule 4 lists, what the program has use for; another one is put here when it is used. */
    private static final Set<String> LIBRARY_CALLS = Set.of("java.util.Arrays.fill", "java.util.Arrays.copyOf",
        "java.lang.Math.max", "java.lang.Math.min", "java.lang.Integer.bitCount", "java.lang.Object.<init>");
    /** The methods that make something; what else is made is made with the object. */
    private static final Set<String> MAKERS = Set.of("NameGuard.name", "NameGuard.enter", "PieceTable.writeSteps");
    private static final int MOST_PARAMETERS = 7;
    private static final int MOST_LINES = 60;
    private static final int MOST_DEPTH = 8;
    private static final int MOST_CLASSES = 12;
    private static final int MOST_FIELDS = 20;

    private LanguageTest() {
    }

    public static void main(String[] args) throws IOException {
        String source = Files.readString(SOURCE);
        Check.due("signs beyond 126", source.chars().filter(c -> c > 126).count(), 0);
        JavaCompiler compiler = ToolProvider.getSystemJavaCompiler();
        try (StandardJavaFileManager files = compiler.getStandardFileManager(null, null, null)) {
            JavacTask task = (JavacTask) compiler.getTask(null, files, null, List.of("--release", "17", "-proc:none"),
                null, files.getJavaFileObjects(SOURCE.toFile()));
            CompilationUnitTree unit = task.parse().iterator().next();
            task.analyze();
            Check.due("a package line", unit.getPackageName() == null ? 0 : 1, 0);
            Check.due("top classes", unit.getTypeDecls().size(), 1);
            Reading reading = new Reading(Trees.instance(task), unit);
            reading.scan(unit, null);
            reading.close();
        }
        Check.close("LanguageTest");
    }

    /** Goes through the whole program once, and keeps who calls whom. */
    private static final class Reading extends TreePathScanner<Void, Void> {
        private final Trees trees;
        private final CompilationUnitTree unit;
        private final Map<String, Set<String>> calls = new TreeMap<>();
        private int classes = 0;
        private String method = "";
        private boolean inConstructor = false;
        private int loops = 0;

        Reading(Trees trees, CompilationUnitTree unit) {
            this.trees = trees;
            this.unit = unit;
        }

        void close() {
            atMost("classes", classes, MOST_CLASSES);
            for (String caller : calls.keySet()) {
                List<String> deepest = deepest(caller, new ArrayList<>());
                atMost("rule 11, calls that stand open at " + deepest, deepest.size(), MOST_DEPTH);
            }
        }

        /** The longest row of calls from a method on; one that comes back to itself is wrong, and ends there. */
        private List<String> deepest(String from, List<String> open) {
            Check.due("rule 8, " + from + " comes back to itself by " + open, open.contains(from) ? 1 : 0, 0);
            List<String> best = new ArrayList<>(List.of(from));
            if (open.contains(from)) {
                return best;
            }
            open.add(from);
            for (String next : calls.getOrDefault(from, Set.of())) {
                List<String> row = deepest(next, open);
                if (row.size() + 1 > best.size()) {
                    best = new ArrayList<>(List.of(from));
                    best.addAll(row);
                }
            }
            open.remove(open.size() - 1);
            return best;
        }

        private static void atMost(String what, long got, long most) {
            Check.due("more than " + most + ": " + what, got > most ? got : most, most);
        }

        private void never(int rule, Tree tree) {
            Check.due("rule " + rule + ", line " + lineOf(tree) + ": " + tree, 1, 0);
        }

        private void must(int rule, Tree tree, boolean holds) {
            Check.due("rule " + rule + ", line " + lineOf(tree) + ": " + tree, holds ? 1 : 0, 1);
        }

        private long lineOf(Tree tree) {
            return unit.getLineMap().getLineNumber(trees.getSourcePositions().getStartPosition(unit, tree));
        }

        private long lastLineOf(Tree tree) {
            return unit.getLineMap().getLineNumber(trees.getSourcePositions().getEndPosition(unit, tree));
        }

        private Element elementOf(Tree tree) {
            return trees.getElement(trees.getPath(unit, tree));
        }

        private TypeMirror typeOf(Tree tree) {
            return trees.getTypeMirror(trees.getPath(unit, tree));
        }

        private static boolean isOwn(String type) {
            return type.equals("NameGuard") || type.startsWith("NameGuard.");
        }

        private static boolean isListed(String type) {
            if (type.endsWith("[][]")) {
                return PLAIN_TYPES.contains(type.substring(0, type.length() - 4));
            }
            if (type.endsWith("[]")) {
                String of = type.substring(0, type.length() - 2);
                return PLAIN_TYPES.contains(of) || isOwn(of);
            }
            return PLAIN_TYPES.contains(type) || isOwn(type) || LIBRARY_TYPES.contains(type)
                || type.matches("java\\.util\\.(Array)?List<(NameGuard\\.\\w+|java\\.lang\\.Integer)>");
        }

        @Override
        public Void visitImport(ImportTree tree, Void none) {
            must(4, tree, IMPORTS.contains(tree.getQualifiedIdentifier().toString()));
            return null;
        }

        @Override
        public Void visitClass(ClassTree tree, Void none) {
            classes++;
            Set<Modifier> marks = tree.getModifiers().getFlags();
            boolean top = getCurrentPath().getParentPath().getLeaf() == unit;
            Check.due("rule 1, " + tree.getSimpleName() + " is public", marks.contains(Modifier.PUBLIC) ? 1 : 0,
                top ? 1 : 0);
            Check.due("rule 1, " + tree.getSimpleName() + " is protected", marks.contains(Modifier.PROTECTED) ? 1 : 0, 0);
            Check.due("rule 2, " + tree.getSimpleName() + " is static or the one at the top",
                top || marks.contains(Modifier.STATIC) ? 1 : 0, 1);
            Check.due("rule 2, " + tree.getSimpleName() + " stands in a method", method.isEmpty() ? 0 : 1, 0);
            long fields = tree.getMembers().stream().filter(member -> member instanceof VariableTree
                && !((VariableTree) member).getModifiers().getFlags().contains(Modifier.STATIC)).count();
            atMost("rule 11, fields of " + tree.getSimpleName(), fields, MOST_FIELDS);
            return super.visitClass(tree, none);
        }

        @Override
        public Void visitBlock(BlockTree tree, Void none) {
            if (tree.isStatic()) {
                never(5, tree);
            }
            return super.visitBlock(tree, none);
        }

        @Override
        public Void visitVariable(VariableTree tree, Void none) {
            Element variable = elementOf(tree);
            must(3, tree, isListed(variable.asType().toString()));
            if (variable.getModifiers().contains(Modifier.STATIC)) {
                must(5, tree, variable.getModifiers().contains(Modifier.FINAL)
                    && STATIC_TYPES.contains(variable.asType().toString()) && tree.getInitializer() != null);
                if (tree.getInitializer() instanceof NewArrayTree) {
                    must(5, tree, ((NewArrayTree) tree.getInitializer()).getInitializers() != null);
                    return null;
                }
            }
            return super.visitVariable(tree, none);
        }

        @Override
        public Void visitMethod(MethodTree tree, Void none) {
            Element element = elementOf(tree);
            method = nameOf(element);
            inConstructor = element.getKind() == ElementKind.CONSTRUCTOR;
            calls.computeIfAbsent(method, key -> new TreeSet<>());
            atMost("rule 11, parameters of " + method, tree.getParameters().size(), MOST_PARAMETERS);
            atMost("rule 11, lines of " + method, lastLineOf(tree) - lineOf(tree) + 1, MOST_LINES);
            if (tree.getReturnType() != null) {
                String answers = typeOf(tree.getReturnType()).toString();
                must(3, tree, answers.equals("void") || isListed(answers));
            }
            Check.due("rule 6, " + method, Set.of("equals", "hashCode", "toString", "finalize", "clone")
                .contains(tree.getName().toString()) ? 1 : 0, 0);
            super.visitMethod(tree, none);
            method = "";
            inConstructor = false;
            return null;
        }

        private static String nameOf(Element called) {
            return called.getEnclosingElement().getSimpleName() + "." + called.getSimpleName();
        }

        private void call(Tree tree, Element called) {
            String owner = called.getEnclosingElement().toString();
            if (isOwn(owner)) {
                calls.computeIfAbsent(method, key -> new TreeSet<>()).add(nameOf(called));
            } else {
                must(4, tree, LIBRARY_CALLS.contains(owner + "." + called.getSimpleName()));
            }
        }

        @Override
        public Void visitMethodInvocation(MethodInvocationTree tree, Void none) {
            call(tree, elementOf(tree));
            return super.visitMethodInvocation(tree, none);
        }

        @Override
        public Void visitNewClass(NewClassTree tree, Void none) {
            if (tree.getClassBody() != null) {
                never(2, tree);
            }
            call(tree, elementOf(tree));
            make(tree);
            return super.visitNewClass(tree, none);
        }

        @Override
        public Void visitNewArray(NewArrayTree tree, Void none) {
            make(tree);
            return super.visitNewArray(tree, none);
        }

        /** A loop of a constructor has its bound from the document; the other makers make one thing a call. */
        private void make(Tree tree) {
            must(12, tree, inConstructor || MAKERS.contains(method) && loops == 0);
        }

        @Override
        public Void visitForLoop(ForLoopTree tree, Void none) {
            must(9, tree, tree.getCondition() != null);
            loops++;
            super.visitForLoop(tree, none);
            loops--;
            return null;
        }

        @Override
        public Void visitWhileLoop(WhileLoopTree tree, Void none) {
            must(9, tree, !(unwrapped(tree.getCondition()) instanceof LiteralTree));
            loops++;
            super.visitWhileLoop(tree, none);
            loops--;
            return null;
        }

        @Override
        public Void visitDoWhileLoop(DoWhileLoopTree tree, Void none) {
            must(9, tree, !(unwrapped(tree.getCondition()) instanceof LiteralTree));
            loops++;
            super.visitDoWhileLoop(tree, none);
            loops--;
            return null;
        }

        private static ExpressionTree unwrapped(ExpressionTree tree) {
            return tree instanceof com.sun.source.tree.ParenthesizedTree
                ? ((com.sun.source.tree.ParenthesizedTree) tree).getExpression() : tree;
        }

        @Override
        public Void visitAssignment(AssignmentTree tree, Void none) {
            changes(tree, tree.getVariable());
            return super.visitAssignment(tree, none);
        }

        @Override
        public Void visitCompoundAssignment(CompoundAssignmentTree tree, Void none) {
            changes(tree, tree.getVariable());
            must(10, tree, !typeOf(tree.getVariable()).toString().equals("java.lang.String"));
            return super.visitCompoundAssignment(tree, none);
        }

        @Override
        public Void visitUnary(UnaryTree tree, Void none) {
            if (Set.of(Tree.Kind.POSTFIX_INCREMENT, Tree.Kind.POSTFIX_DECREMENT, Tree.Kind.PREFIX_INCREMENT,
                Tree.Kind.PREFIX_DECREMENT).contains(tree.getKind())) {
                changes(tree, tree.getExpression());
            }
            return super.visitUnary(tree, none);
        }

        private void changes(Tree tree, ExpressionTree target) {
            if (target instanceof ArrayAccessTree) {
                Element row = elementOf(((ArrayAccessTree) target).getExpression());
                must(5, tree, row == null || !row.getModifiers().contains(Modifier.STATIC));
            }
        }

        @Override
        public Void visitBinary(BinaryTree tree, Void none) {
            String left = typeOf(tree.getLeftOperand()).toString();
            String right = typeOf(tree.getRightOperand()).toString();
            if (tree.getKind() == Tree.Kind.EQUAL_TO || tree.getKind() == Tree.Kind.NOT_EQUAL_TO) {
                must(6, tree, !(left.startsWith("java.lang.") && right.startsWith("java.lang.")));
            }
            if (tree.getKind() == Tree.Kind.PLUS) {
                must(10, tree, !left.equals("java.lang.String") && !right.equals("java.lang.String"));
            }
            if (tree.getKind() == Tree.Kind.DIVIDE || tree.getKind() == Tree.Kind.REMAINDER) {
                must(7, tree, tree.getRightOperand() instanceof LiteralTree
                    && !((LiteralTree) tree.getRightOperand()).getValue().equals(0));
            }
            return super.visitBinary(tree, none);
        }

        @Override
        public Void visitTypeCast(TypeCastTree tree, Void none) {
            must(6, tree, PLAIN_TYPES.contains(typeOf(tree.getType()).toString()));
            return super.visitTypeCast(tree, none);
        }

        @Override
        public Void visitInstanceOf(InstanceOfTree tree, Void none) {
            must(6, tree, isOwn(typeOf(tree.getType()).toString()));
            return super.visitInstanceOf(tree, none);
        }

        @Override
        public Void visitLambdaExpression(LambdaExpressionTree tree, Void none) {
            never(2, tree);
            return super.visitLambdaExpression(tree, none);
        }

        @Override
        public Void visitMemberReference(MemberReferenceTree tree, Void none) {
            never(2, tree);
            return super.visitMemberReference(tree, none);
        }

        @Override
        public Void visitThrow(ThrowTree tree, Void none) {
            never(6, tree);
            return super.visitThrow(tree, none);
        }

        @Override
        public Void visitTry(TryTree tree, Void none) {
            never(6, tree);
            return super.visitTry(tree, none);
        }

        @Override
        public Void visitSynchronized(SynchronizedTree tree, Void none) {
            never(6, tree);
            return super.visitSynchronized(tree, none);
        }

        @Override
        public Void visitAssert(AssertTree tree, Void none) {
            never(6, tree);
            return super.visitAssert(tree, none);
        }
    }
}
