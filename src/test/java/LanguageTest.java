import com.sun.source.tree.AssertTree;
import com.sun.source.tree.BinaryTree;
import com.sun.source.tree.ClassTree;
import com.sun.source.tree.CompilationUnitTree;
import com.sun.source.tree.CompoundAssignmentTree;
import com.sun.source.tree.ExpressionTree;
import com.sun.source.tree.ImportTree;
import com.sun.source.tree.LambdaExpressionTree;
import com.sun.source.tree.LiteralTree;
import com.sun.source.tree.MemberReferenceTree;
import com.sun.source.tree.MethodInvocationTree;
import com.sun.source.tree.MethodTree;
import com.sun.source.tree.NewClassTree;
import com.sun.source.tree.SynchronizedTree;
import com.sun.source.tree.ThrowTree;
import com.sun.source.tree.Tree;
import com.sun.source.tree.TryTree;
import com.sun.source.tree.VariableTree;
import com.sun.source.util.JavacTask;
import com.sun.source.util.TreePath;
import com.sun.source.util.TreePathScanner;
import com.sun.source.util.Trees;
import java.nio.file.Files;
import java.nio.file.Path;
import java.util.ArrayList;
import java.util.Arrays;
import java.util.HashMap;
import java.util.HashSet;
import java.util.LinkedHashMap;
import java.util.LinkedHashSet;
import java.util.List;
import java.util.Map;
import java.util.Set;
import javax.lang.model.element.Element;
import javax.lang.model.element.ElementKind;
import javax.lang.model.element.Modifier;
import javax.lang.model.type.TypeMirror;
import javax.tools.JavaCompiler;
import javax.tools.StandardJavaFileManager;
import javax.tools.ToolProvider;

/** The class keeps to those rules of ../shared/LANGUAGE.md that its source shows; FaceTest looks at rule 1. */
public final class LanguageTest {
    /** Another file may be told, to try this test itself. */
    private static final Path SOURCE = Path.of(System.getProperty("source", "src/main/java/SandHouse.java"));

    private static final Set<String> THROWN = words("IllegalStateException IllegalArgumentException"
        + " IndexOutOfBoundsException ArithmeticException UnsupportedOperationException NoSuchElementException"
        + " RuntimeException");
    private static final Set<String> IMPORTED = words("java.util.NoSuchElementException java.util.ArrayList"
        + " java.util.List java.util.Arrays java.util.Iterator");
    private static final Map<String, Set<String>> LIBRARY = Map.of(
        "String", words("length charAt isEmpty equals indexOf substring toCharArray"),
        "StringBuilder", words("append charAt setCharAt setLength deleteCharAt reverse length toString"),
        "ArrayList", words("add get set remove size isEmpty clear"),
        "List", words("add get set remove size isEmpty clear of"),
        "Integer", words("compare max min bitCount highestOneBit lowestOneBit numberOfLeadingZeros"
            + " numberOfTrailingZeros signum intValue valueOf"),
        "Long", words("compare max min bitCount signum"),
        "Math", words("max min abs floorDiv floorMod"),
        "System", words("arraycopy"),
        "Arrays", words("copyOf copyOfRange fill"),
        "Object", words("clone"));
    private static final Set<String> TYPES = words("int long short byte char boolean double float String StringBuilder"
        + " Integer List ArrayList");
    private static final Set<String> CONSTANTS = words("int long boolean char String int[] long[] char[] byte[]");

    private static final int MOST_CLASSES = 12;
    private static final int MOST_FIELDS = 20;
    private static final int MOST_LINES = 60;
    private static final int MOST_PARAMETERS = 7;
    private static final int MOST_DEEP = 8;

    private static int wrong = 0;

    private static Set<String> words(String text) {
        return new HashSet<>(Arrays.asList(text.split(" ")));
    }

    private static void complain(int rule, String text) {
        wrong++;
        System.out.println("LANGUAGE.md, rule " + rule + ": " + text);
    }

    public static void main(String[] args) throws Exception {
        for (byte b : Files.readAllBytes(SOURCE)) {
            if (b < 1) {
                complain(4, "a sign that is not 1 to 127");
            }
        }
        JavaCompiler compiler = ToolProvider.getSystemJavaCompiler();
        try (StandardJavaFileManager files = compiler.getStandardFileManager(null, null, null)) {
            JavacTask task = (JavacTask) compiler.getTask(null, files, null, List.of("-proc:none"), null,
                files.getJavaFileObjects(SOURCE));
            Reader reader = new Reader(Trees.instance(task));
            Iterable<? extends CompilationUnitTree> units = task.parse();
            task.analyze();
            for (CompilationUnitTree unit : units) {
                reader.read(unit);
            }
            reader.checkDepth();
            System.out.println(reader.calls.size() + " methods read, " + wrong + " faults");
        }
        if (wrong != 0) {
            System.exit(1);
        }
    }

    private static final class Reader extends TreePathScanner<Void, Void> {
        private final Trees trees;
        /** Of each method of the file, which of the file it calls. */
        private final Map<Element, Set<Element>> calls = new LinkedHashMap<>();
        private final Map<Element, MethodTree> methods = new HashMap<>();
        private CompilationUnitTree unit;
        private MethodTree method;
        private int classes = 0;

        Reader(Trees trees) {
            this.trees = trees;
        }

        void read(CompilationUnitTree tree) {
            unit = tree;
            if (tree.getPackageName() != null) {
                complain(1, "a package line");
            }
            for (ImportTree i : tree.getImports()) {
                if (!IMPORTED.contains(i.getQualifiedIdentifier().toString())) {
                    complain(4, i.toString().trim());
                }
            }
            scan(tree.getTypeDecls());
            if (classes > MOST_CLASSES) {
                complain(11, classes + " classes");
            }
        }

        private void scan(Iterable<? extends Tree> trees) {
            for (Tree tree : trees) {
                scan(new TreePath(new TreePath(unit), tree), null);
            }
        }

        private String at(Tree tree) {
            return "line " + lineOf(trees.getSourcePositions().getStartPosition(unit, tree)) + ": "
                + tree.toString().trim().lines().findFirst().orElse("");
        }

        private long lineOf(long position) {
            return unit.getLineMap().getLineNumber(position);
        }

        private Element element(Tree tree) {
            return trees.getElement(TreePath.getPath(unit, tree));
        }

        private String typeOf(Tree tree) {
            TypeMirror type = trees.getTypeMirror(TreePath.getPath(unit, tree));
            return type == null ? "" : plainName(type.toString());
        }

        /** Without package and without what stands between < and >. */
        private static String plainName(String type) {
            String plain = type.replaceAll("<.*>", "");
            return plain.substring(plain.lastIndexOf('.') + 1);
        }

        private static boolean own(String plain, Element inside) {
            for (Element e = inside; e != null; e = e.getEnclosingElement()) {
                for (Element member : e.getEnclosedElements()) {
                    if (member.getSimpleName().contentEquals(plain) && member.getKind().isClass()) {
                        return true;
                    }
                }
            }
            return false;
        }

        @Override
        public Void visitClass(ClassTree tree, Void v) {
            classes++;
            Element e = element(tree);
            boolean outermost = getCurrentPath().getParentPath().getLeaf() == unit;
            if (!outermost && e.getKind() == ElementKind.CLASS && !e.getModifiers().contains(Modifier.STATIC)) {
                complain(2, "a class that is not static: " + at(tree));
            }
            int fields = 0;
            for (Tree member : tree.getMembers()) {
                if (member instanceof VariableTree) {
                    fields += checkField((VariableTree) member);
                }
                if (member.getKind() == Tree.Kind.BLOCK) {
                    complain(5, "a block of a class: " + at(member));
                }
            }
            if (fields > MOST_FIELDS) {
                complain(11, fields + " fields: " + at(tree));
            }
            return super.visitClass(tree, v);
        }

        private int checkField(VariableTree field) {
            Set<Modifier> modifiers = field.getModifiers().getFlags();
            if (!modifiers.contains(Modifier.STATIC)) {
                return 1;
            }
            if (!modifiers.contains(Modifier.FINAL) || !CONSTANTS.contains(typeOf(field))) {
                complain(5, "static state: " + at(field));
            }
            return 0;
        }

        @Override
        public Void visitVariable(VariableTree tree, Void v) {
            String type = typeOf(tree);
            String plain = type.replace("[]", "");
            int dimensions = (type.length() - plain.length()) / 2;
            if (!TYPES.contains(plain) && !own(plain, element(tree))) {
                complain(3, "a type: " + at(tree));
            }
            if (dimensions > (plain.equals("int") || plain.equals("long") ? 2 : 1)) {
                complain(3, "an array of more dimensions: " + at(tree));
            }
            return super.visitVariable(tree, v);
        }

        @Override
        public Void visitMethod(MethodTree tree, Void v) {
            method = tree;
            Element e = element(tree);
            methods.put(e, tree);
            calls.putIfAbsent(e, new LinkedHashSet<>());
            if (tree.getParameters().size() > MOST_PARAMETERS) {
                complain(11, "too many parameters: " + at(tree));
            }
            long first = trees.getSourcePositions().getStartPosition(unit, tree);
            long last = trees.getSourcePositions().getEndPosition(unit, tree);
            // a constructor that is not written has no end
            if (last >= 0 && lineOf(last) - lineOf(first) + 1 > MOST_LINES) {
                complain(11, "a long method: " + at(tree));
            }
            super.visitMethod(tree, v);
            method = null;
            return null;
        }

        @Override
        public Void visitMethodInvocation(MethodInvocationTree tree, Void v) {
            Element called = element(tree.getMethodSelect());
            String owner = called.getEnclosingElement().toString();
            if (called.getKind() == ElementKind.METHOD && owner.startsWith("java.")) {
                String name = called.getSimpleName().toString();
                if (!LIBRARY.getOrDefault(plainName(owner), Set.of()).contains(name)) {
                    complain(4, "the library: " + at(tree));
                }
            } else if (called.getKind() == ElementKind.METHOD && method != null) {
                calls.computeIfAbsent(element(method), k -> new LinkedHashSet<>()).add(called);
            }
            return super.visitMethodInvocation(tree, v);
        }

        @Override
        public Void visitNewClass(NewClassTree tree, Void v) {
            String type = typeOf(tree);
            boolean thrown = getCurrentPath().getParentPath().getLeaf() instanceof ThrowTree;
            Element inside = trees.getElement(new TreePath(new TreePath(unit), unit.getTypeDecls().get(0)));
            if (!thrown && !own(type, inside) && !type.equals(inside.getSimpleName().toString())
                && !words("StringBuilder ArrayList String").contains(type)) {
                complain(4, "an object of another class: " + at(tree));
            }
            return super.visitNewClass(tree, v);
        }

        @Override
        public Void visitThrow(ThrowTree tree, Void v) {
            if (method != null && method.getReturnType() == null) {
                complain(6, "a throw in a constructor: " + at(tree));
            }
            ExpressionTree e = tree.getExpression();
            boolean written = e instanceof NewClassTree && THROWN.contains(typeOf(e))
                && ((NewClassTree) e).getArguments().size() <= 1
                && ((NewClassTree) e).getArguments().stream().allMatch(a -> a instanceof LiteralTree);
            if (!written) {
                complain(6, at(tree));
            }
            return super.visitThrow(tree, v);
        }

        /** The rules leave some tries; none is needed here, so that none can catch what the machine throws. */
        @Override
        public Void visitTry(TryTree tree, Void v) {
            complain(6, at(tree));
            return super.visitTry(tree, v);
        }

        @Override
        public Void visitSynchronized(SynchronizedTree tree, Void v) {
            complain(6, at(tree));
            return super.visitSynchronized(tree, v);
        }

        @Override
        public Void visitAssert(AssertTree tree, Void v) {
            complain(6, at(tree));
            return super.visitAssert(tree, v);
        }

        @Override
        public Void visitLambdaExpression(LambdaExpressionTree tree, Void v) {
            complain(2, at(tree));
            return super.visitLambdaExpression(tree, v);
        }

        @Override
        public Void visitMemberReference(MemberReferenceTree tree, Void v) {
            complain(2, at(tree));
            return super.visitMemberReference(tree, v);
        }

        @Override
        public Void visitBinary(BinaryTree tree, Void v) {
            String left = typeOf(tree.getLeftOperand());
            String right = typeOf(tree.getRightOperand());
            if (tree.getKind() == Tree.Kind.PLUS && (left.equals("String") || right.equals("String"))) {
                complain(10, "texts joined by +: " + at(tree));
            }
            boolean same = tree.getKind() == Tree.Kind.EQUAL_TO || tree.getKind() == Tree.Kind.NOT_EQUAL_TO;
            if (same && left.equals(right) && (left.equals("String") || left.equals("Integer"))) {
                complain(6, "which object it is: " + at(tree));
            }
            return super.visitBinary(tree, v);
        }

        @Override
        public Void visitCompoundAssignment(CompoundAssignmentTree tree, Void v) {
            if (typeOf(tree.getVariable()).equals("String")) {
                complain(10, "texts joined by +=: " + at(tree));
            }
            return super.visitCompoundAssignment(tree, v);
        }

        /** Rules 8 and 11: methods that lead back to themselves carry their depth; all others go eight deep. */
        void checkDepth() {
            for (Element e : calls.keySet()) {
                if (leadsTo(e, e, new HashSet<>()) && methods.get(e).getParameters().stream()
                    .noneMatch(p -> p.getName().contentEquals("deep"))) {
                    complain(8, "a recursion that does not carry its depth: " + e);
                }
                List<Element> path = longest(e, new LinkedHashSet<>());
                if (path.size() > MOST_DEEP) {
                    complain(11, path.size() + " calls deep: " + path);
                }
            }
        }

        private boolean leadsTo(Element from, Element to, Set<Element> passed) {
            for (Element next : calls.getOrDefault(from, Set.of())) {
                if (next == to || passed.add(next) && leadsTo(next, to, passed)) {
                    return true;
                }
            }
            return false;
        }

        private List<Element> longest(Element e, Set<Element> passed) {
            List<Element> best = new ArrayList<>(passed);
            if (!passed.add(e)) {
                return best;
            }
            best.add(e);
            for (Element next : calls.getOrDefault(e, Set.of())) {
                List<Element> path = longest(next, passed);
                best = path.size() > best.size() ? path : best;
            }
            passed.remove(e);
            return best;
        }
    }
}
