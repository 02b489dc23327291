import com.sun.source.tree.AssertTree;
import com.sun.source.tree.BinaryTree;
import com.sun.source.tree.CatchTree;
import com.sun.source.tree.ClassTree;
import com.sun.source.tree.CompilationUnitTree;
import com.sun.source.tree.LambdaExpressionTree;
import com.sun.source.tree.MemberReferenceTree;
import com.sun.source.tree.MethodInvocationTree;
import com.sun.source.tree.MethodTree;
import com.sun.source.tree.NewClassTree;
import com.sun.source.tree.SynchronizedTree;
import com.sun.source.tree.ThrowTree;
import com.sun.source.tree.Tree;
import com.sun.source.tree.TryTree;
import com.sun.source.tree.VariableTree;
import com.sun.source.util.JavacTask;
import com.sun.source.util.TreePathScanner;
import com.sun.source.util.Trees;
import java.io.IOException;
import java.nio.file.Path;
import java.util.ArrayList;
import java.util.LinkedHashSet;
import java.util.List;
import java.util.Map;
import java.util.Set;
import java.util.TreeMap;
import java.util.TreeSet;
import javax.lang.model.element.Element;
import javax.lang.model.element.Modifier;
import javax.tools.JavaCompiler;
import javax.tools.StandardJavaFileManager;
import javax.tools.ToolProvider;

/** Those rules of ../shared/LANGUAGE.md that can be read off the source of the class. */
public final class LanguageTest {
    private static final Path SOURCE = Path.of("src/main/java/Mastline.java");
    private static final int MAX_PARAMETERS = 7;
    private static final int MAX_LINES = 60;
    private static final int MAX_CLASSES = 12;
    private static final int MAX_FIELDS = 20;
    private static final int MAX_DEPTH = 8;
    private static final Set<String> LIBRARY = Set.of("java.lang.Math.abs(int)", "java.lang.Math.min(int,int)",
            "java.lang.Object.Object()", "java.lang.IllegalStateException.IllegalStateException()",
            "java.lang.IllegalArgumentException.IllegalArgumentException()",
            "java.lang.IndexOutOfBoundsException.IndexOutOfBoundsException()");

    /** Of each method and constructor of the file those that it calls, the library's too. */
    private static final Map<String, Set<String>> CALLS = new TreeMap<>();
    private static final Set<String> PUBLIC = new TreeSet<>();
    private static final List<String> OFFENCES = new ArrayList<>();
    private static int classes = 0;

    public static void main(String[] args) throws IOException {
        read();
        Check.due("methods that were read", true, () -> CALLS.size() > 40);
        Check.due("public methods", 15, PUBLIC::size);
        Check.due("classes, at most " + MAX_CLASSES, true, () -> classes <= MAX_CLASSES);
        Check.due("what no rule allows", "[]", () -> OFFENCES);
        Check.due("what is called of the library", "[]", LanguageTest::otherLibrary);
        for (String method : PUBLIC) {
            List<String> deepest = deepest(method, new ArrayList<>());
            Check.due("calls at most " + MAX_DEPTH + " deep: " + deepest, true, () -> deepest.size() <= MAX_DEPTH);
        }
        Check.end("LanguageTest");
    }

    private static void read() throws IOException {
        JavaCompiler compiler = ToolProvider.getSystemJavaCompiler();
        try (StandardJavaFileManager files = compiler.getStandardFileManager(null, null, null)) {
            JavacTask task = (JavacTask) compiler.getTask(null, files, null, List.of("--release", "17"), null,
                    files.getJavaFileObjects(SOURCE));
            Iterable<? extends CompilationUnitTree> units = task.parse();
            task.analyze();
            for (CompilationUnitTree unit : units) {
                new Reader(Trees.instance(task), unit).scan(unit, null);
            }
        }
    }

    private static Set<String> otherLibrary() {
        Set<String> other = new TreeSet<>();
        for (Set<String> called : CALLS.values()) {
            for (String method : called) {
                if (!CALLS.containsKey(method) && !LIBRARY.contains(method)) {
                    other.add(method);
                }
            }
        }
        return other;
    }

    /** The longest chain of calls that begins with a method, which counts too; above is the chain to it. */
    private static List<String> deepest(String method, List<String> above) {
        List<String> longest = new ArrayList<>(List.of(method));
        if (above.contains(method)) {
            Check.due("a method that calls itself", "none", () -> method);
            return longest;
        }
        List<String> chain = new ArrayList<>(above);
        chain.add(method);
        for (String called : CALLS.getOrDefault(method, Set.of())) {
            List<String> below = deepest(called, chain);
            if (below.size() >= longest.size()) {
                longest = new ArrayList<>(List.of(method));
                longest.addAll(below);
            }
        }
        return longest;
    }

    private static final class Reader extends TreePathScanner<Void, Void> {
        private final Trees trees;
        private final CompilationUnitTree unit;
        private String inside = "";
        private boolean inConstructor;

        private Reader(Trees trees, CompilationUnitTree unit) {
            this.trees = trees;
            this.unit = unit;
        }

        private long line(long position) {
            return unit.getLineMap().getLineNumber(position);
        }

        private void offence(String what, Tree tree) {
            OFFENCES.add(what + " in line " + line(trees.getSourcePositions().getStartPosition(unit, tree)));
        }

        private String name(Element method) {
            return method.getEnclosingElement() + "." + (method.getSimpleName().contentEquals("<init>")
                    ? method.toString().replaceFirst(".*\\.", "") : method);
        }

        private void called(Element method) {
            CALLS.get(inside).add(name(method));
        }

        @Override
        public Void visitClass(ClassTree tree, Void none) {
            classes++;
            Element type = trees.getElement(getCurrentPath());
            Set<Modifier> modifiers = type.getModifiers();
            if (classes > 1 && (!modifiers.contains(Modifier.STATIC) || modifiers.contains(Modifier.PUBLIC)
                    || modifiers.contains(Modifier.PROTECTED))) {
                offence("rule 1: a class that is public or not static", tree);
            }
            int fields = 0;
            for (Tree member : tree.getMembers()) {
                if (member instanceof VariableTree field && !field.getModifiers().getFlags().contains(Modifier.STATIC)) {
                    fields++;
                }
            }
            if (fields > MAX_FIELDS) {
                offence("rule 11: " + fields + " fields", tree);
            }
            return super.visitClass(tree, none);
        }

        @Override
        public Void visitMethod(MethodTree tree, Void none) {
            Element method = trees.getElement(getCurrentPath());
            inside = name(method);
            inConstructor = tree.getReturnType() == null;
            CALLS.put(inside, new LinkedHashSet<>());
            if (method.getModifiers().contains(Modifier.PUBLIC)) {
                PUBLIC.add(inside);
            }
            long lines = line(trees.getSourcePositions().getEndPosition(unit, tree))
                    - line(trees.getSourcePositions().getStartPosition(unit, tree)) + 1;
            if (tree.getParameters().size() > MAX_PARAMETERS || lines > MAX_LINES) {
                offence("rule 11: " + tree.getParameters().size() + " parameters, " + lines + " lines", tree);
            }
            return super.visitMethod(tree, none);
        }

        @Override
        public Void visitVariable(VariableTree tree, Void none) {
            Set<Modifier> flags = tree.getModifiers().getFlags();
            if (flags.contains(Modifier.STATIC) && !flags.contains(Modifier.FINAL)) {
                offence("rule 5: a static field that is not final", tree);
            }
            return super.visitVariable(tree, none);
        }

        @Override
        public Void visitMethodInvocation(MethodInvocationTree tree, Void none) {
            called(trees.getElement(getCurrentPath()));
            return super.visitMethodInvocation(tree, none);
        }

        @Override
        public Void visitNewClass(NewClassTree tree, Void none) {
            if (CALLS.containsKey(inside)) {
                called(trees.getElement(getCurrentPath()));
            }
            return super.visitNewClass(tree, none);
        }

        @Override
        public Void visitThrow(ThrowTree tree, Void none) {
            if (inConstructor || !(tree.getExpression() instanceof NewClassTree)) {
                offence("rule 6: a throw in a constructor, or of something that is not new", tree);
            }
            return super.visitThrow(tree, none);
        }

        @Override
        public Void visitBinary(BinaryTree tree, Void none) {
            if (tree.getKind() == Tree.Kind.PLUS
                    && trees.getTypeMirror(getCurrentPath()).toString().equals("java.lang.String")) {
                offence("rule 10: texts joined by +", tree);
            }
            return super.visitBinary(tree, none);
        }

        @Override
        public Void visitTry(TryTree tree, Void none) {
            offence("the class needs no try", tree);
            return super.visitTry(tree, none);
        }

        @Override
        public Void visitCatch(CatchTree tree, Void none) {
            offence("the class needs no catch", tree);
            return super.visitCatch(tree, none);
        }

        @Override
        public Void visitLambdaExpression(LambdaExpressionTree tree, Void none) {
            offence("rule 2: a lambda", tree);
            return super.visitLambdaExpression(tree, none);
        }

        @Override
        public Void visitMemberReference(MemberReferenceTree tree, Void none) {
            offence("rule 2: a method reference", tree);
            return super.visitMemberReference(tree, none);
        }

        @Override
        public Void visitSynchronized(SynchronizedTree tree, Void none) {
            offence("rule 6: synchronized", tree);
            return super.visitSynchronized(tree, none);
        }

        @Override
        public Void visitAssert(AssertTree tree, Void none) {
            offence("rule 6: assert", tree);
            return super.visitAssert(tree, none);
        }
    }
}
