import com.sun.source.tree.AssertTree;
import com.sun.source.tree.BinaryTree;
import com.sun.source.tree.BlockTree;
import com.sun.source.tree.ClassTree;
import com.sun.source.tree.CompilationUnitTree;
import com.sun.source.tree.ExpressionTree;
import com.sun.source.tree.ImportTree;
import com.sun.source.tree.LambdaExpressionTree;
import com.sun.source.tree.MemberReferenceTree;
import com.sun.source.tree.MethodInvocationTree;
import com.sun.source.tree.MethodTree;
import com.sun.source.tree.NewClassTree;
import com.sun.source.tree.SynchronizedTree;
import com.sun.source.tree.Tree;
import com.sun.source.tree.TryTree;
import com.sun.source.tree.VariableTree;
import com.sun.source.util.JavacTask;
import com.sun.source.util.TreePathScanner;
import com.sun.source.util.Trees;
import java.io.File;
import java.util.ArrayList;
import java.util.HashMap;
import java.util.HashSet;
import java.util.LinkedHashSet;
import java.util.List;
import java.util.Map;
import java.util.Set;
import javax.lang.model.element.Element;
import javax.lang.model.element.Modifier;
import javax.tools.JavaCompiler;
import javax.tools.StandardJavaFileManager;
import javax.tools.ToolProvider;

/** The rules of LANGUAGE.md that can be read off the source of the class. */
public final class LanguageTest {
    private static final String SOURCE = "src/main/java/PostBus.java";
    private static final int MOST_CLASSES = 12;
    private static final int MOST_FIELDS = 20;
    private static final int MOST_PARAMETERS = 7;
    private static final int MOST_LINES = 60;
    private static final int MOST_DEEP = 8;
    // What the class uses of what rule 4 allows; what it comes to use beside it is looked up there and added here.
    private static final Set<String> LIBRARY = Set.of("java.lang.String.charAt", "java.lang.String.indexOf",
        "java.lang.Math.max", "java.lang.Math.min", "java.lang.Math.abs", "java.lang.System.arraycopy");
    private static final Set<String> THROWN = Set.of("java.util.NoSuchElementException");
    private static final Set<String> CONSTANTS = Set.of("int", "long", "boolean", "char", "java.lang.String");

    public static void main(String[] args) throws Exception {
        JavaCompiler compiler = ToolProvider.getSystemJavaCompiler();
        try (StandardJavaFileManager files = compiler.getStandardFileManager(null, null, null)) {
            JavacTask task = (JavacTask) compiler.getTask(null, files, null, List.of("-proc:none"), null,
                files.getJavaFileObjects(new File(SOURCE)));
            CompilationUnitTree unit = task.parse().iterator().next();
            task.analyze();
            Rules rules = new Rules(Trees.instance(task), unit);
            rules.scan(unit, null);
            Check.due("a package line: is there", unit.getPackageName() == null ? 0 : 1, 0);
            Check.yes("rule 11, at most " + MOST_CLASSES + " classes: " + rules.classes,
                rules.classes <= MOST_CLASSES);
            rules.depths();
        }
        Check.end();
    }

    /** Goes through the source and tells what breaks a rule. */
    private static final class Rules extends TreePathScanner<Void, Void> {
        private final Trees trees;
        private final CompilationUnitTree unit;
        private final Map<Element, Set<Element>> calls = new HashMap<>();
        private Element method;
        private int classes;

        Rules(Trees itsTrees, CompilationUnitTree itsUnit) {
            trees = itsTrees;
            unit = itsUnit;
        }

        private long line(long spot) {
            return unit.getLineMap().getLineNumber(spot);
        }

        private long start(Tree tree) {
            return line(trees.getSourcePositions().getStartPosition(unit, tree));
        }

        private void keeps(String rule, Tree tree, boolean kept) {
            Check.yes("line " + start(tree) + ", rule " + rule + ": kept", kept);
        }

        @Override
        public Void visitImport(ImportTree tree, Void none) {
            keeps("4, imports", tree, THROWN.contains(tree.getQualifiedIdentifier().toString()));
            return super.visitImport(tree, none);
        }

        @Override
        public Void visitClass(ClassTree tree, Void none) {
            classes++;
            boolean isFace = tree.getSimpleName().contentEquals("PostBus");
            Set<Modifier> flags = tree.getModifiers().getFlags();
            keeps("1 and 2, nested classes are static and not public", tree,
                isFace || flags.contains(Modifier.STATIC) && !flags.contains(Modifier.PUBLIC));
            int fields = 0;
            for (Tree member : tree.getMembers()) {
                keeps("5, no initialiser block", member, !(member instanceof BlockTree));
                if (member instanceof VariableTree field) {
                    Set<Modifier> itsFlags = field.getModifiers().getFlags();
                    boolean fixed = itsFlags.contains(Modifier.STATIC);
                    fields += fixed ? 0 : 1;
                    Element element = trees.getElement(trees.getPath(unit, field));
                    keeps("5, static fields are final constants", field, !fixed
                        || itsFlags.contains(Modifier.FINAL) && CONSTANTS.contains(element.asType().toString()));
                }
            }
            keeps("11, at most " + MOST_FIELDS + " fields", tree, fields <= MOST_FIELDS);
            return super.visitClass(tree, none);
        }

        @Override
        public Void visitMethod(MethodTree tree, Void none) {
            keeps("11, at most " + MOST_PARAMETERS + " parameters", tree,
                tree.getParameters().size() <= MOST_PARAMETERS);
            long end = line(trees.getSourcePositions().getEndPosition(unit, tree));
            keeps("11, at most " + MOST_LINES + " lines", tree, end - start(tree) < MOST_LINES);
            method = trees.getElement(getCurrentPath());
            calls.putIfAbsent(method, new LinkedHashSet<>());
            return super.visitMethod(tree, none);
        }

        @Override
        public Void visitMethodInvocation(MethodInvocationTree tree, Void none) {
            Element called = trees.getElement(getCurrentPath());
            String name = called.getEnclosingElement() + "." + called.getSimpleName();
            boolean own = name.startsWith("PostBus");
            // The compiler writes a call of the class above at the head of each constructor.
            boolean constructor = called.getSimpleName().contentEquals("<init>");
            keeps("4, the library: " + name, tree, own || constructor || LIBRARY.contains(name));
            if (!constructor && method != null) {
                calls.get(method).add(called);
            }
            return super.visitMethodInvocation(tree, none);
        }

        @Override
        public Void visitNewClass(NewClassTree tree, Void none) {
            String name = trees.getTypeMirror(getCurrentPath()).toString();
            keeps("4 and 6, new " + name, tree, name.startsWith("PostBus") || THROWN.contains(name));
            if (name.startsWith("PostBus") && method != null) {
                calls.get(method).add(trees.getElement(getCurrentPath()));
            }
            return super.visitNewClass(tree, none);
        }

        @Override
        public Void visitBinary(BinaryTree tree, Void none) {
            boolean texts = isText(tree.getLeftOperand()) || isText(tree.getRightOperand());
            keeps("6 and 10, no + and no == of texts", tree, !texts);
            return super.visitBinary(tree, none);
        }

        private boolean isText(ExpressionTree tree) {
            return "java.lang.String".equals(trees.getTypeMirror(trees.getPath(unit, tree)).toString());
        }

        @Override
        public Void visitLambdaExpression(LambdaExpressionTree tree, Void none) {
            keeps("2, no lambda", tree, false);
            return super.visitLambdaExpression(tree, none);
        }

        @Override
        public Void visitMemberReference(MemberReferenceTree tree, Void none) {
            keeps("2, no method reference", tree, false);
            return super.visitMemberReference(tree, none);
        }

        @Override
        public Void visitTry(TryTree tree, Void none) {
            keeps("6 and 7, nothing is caught", tree, false);
            return super.visitTry(tree, none);
        }

        @Override
        public Void visitSynchronized(SynchronizedTree tree, Void none) {
            keeps("6, no synchronized", tree, false);
            return super.visitSynchronized(tree, none);
        }

        @Override
        public Void visitAssert(AssertTree tree, Void none) {
            keeps("6, no assert", tree, false);
            return super.visitAssert(tree, none);
        }

        /** Rule 11: how deep calls go, a method that is open already not counted again. */
        void depths() {
            for (Element from : new ArrayList<>(calls.keySet())) {
                boolean face = from.getModifiers().contains(Modifier.PUBLIC);
                int deep = face ? depth(from, new HashSet<>()) : 0;
                Check.yes("rule 11, " + from + " goes " + deep + " calls deep: kept", deep <= MOST_DEEP);
            }
        }

        private int depth(Element from, Set<Element> open) {
            if (!open.add(from)) {
                return 0;
            }
            int deepest = 0;
            for (Element called : calls.getOrDefault(from, Set.of())) {
                deepest = Math.max(deepest, depth(called, open));
            }
            open.remove(from);
            return deepest + 1;
        }
    }
}
