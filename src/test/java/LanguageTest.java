import com.sun.source.tree.ArrayAccessTree;
import com.sun.source.tree.AssignmentTree;
import com.sun.source.tree.BinaryTree;
import com.sun.source.tree.ClassTree;
import com.sun.source.tree.CompilationUnitTree;
import com.sun.source.tree.CompoundAssignmentTree;
import com.sun.source.tree.MethodInvocationTree;
import com.sun.source.tree.MethodTree;
import com.sun.source.tree.NewClassTree;
import com.sun.source.tree.Tree;
import com.sun.source.tree.TypeCastTree;
import com.sun.source.tree.VariableTree;
import com.sun.source.util.JavacTask;
import com.sun.source.util.TreePath;
import com.sun.source.util.TreePathScanner;
import com.sun.source.util.Trees;
import java.nio.file.Path;
import java.util.ArrayList;
import java.util.EnumSet;
import java.util.LinkedHashMap;
import java.util.LinkedHashSet;
import java.util.List;
import java.util.Map;
import java.util.Set;
import javax.lang.model.element.Element;
import javax.lang.model.element.ExecutableElement;
import javax.lang.model.element.Modifier;
import javax.lang.model.element.TypeElement;
import javax.tools.JavaCompiler;
import javax.tools.StandardJavaFileManager;
import javax.tools.ToolProvider;

/** Rules of LANGUAGE.md that the compiler's tree of the class shows: what is used, and how deep calls go. */
public final class LanguageTest {
    private static final Path SOURCE = Path.of("src/main/java/TongueSight.java");
    private static final int DEEPEST = 8, CLASSES = 12, FIELDS = 20, LINES = 60, PARAMETERS = 7;
    private static final Set<String> LIBRARY = Set.of("String.length", "String.charAt", "String.isEmpty",
            "String.equals", "String.indexOf", "String.substring", "String.toCharArray", "System.arraycopy",
            "Arrays.copyOf", "Arrays.copyOfRange", "Arrays.fill", "Math.abs", "Math.max", "Math.min", "Math.floorDiv",
            "Math.floorMod", "Integer.bitCount", "Integer.compare", "Long.compare");
    // The last two are in the language, but the divisors of the class are looked at without them.
    private static final Set<Tree.Kind> REFUSED = EnumSet.of(Tree.Kind.LAMBDA_EXPRESSION, Tree.Kind.MEMBER_REFERENCE,
            Tree.Kind.THROW, Tree.Kind.TRY, Tree.Kind.CATCH, Tree.Kind.SYNCHRONIZED, Tree.Kind.ASSERT,
            Tree.Kind.DIVIDE_ASSIGNMENT, Tree.Kind.REMAINDER_ASSIGNMENT);

    private static int wrong;

    /** What the source has, gathered in one walk. */
    private static final class Walk extends TreePathScanner<Void, Void> {
        final Trees trees;
        final CompilationUnitTree unit;
        final Map<String, Set<String>> calls = new LinkedHashMap<>();
        final Set<String> publics = new LinkedHashSet<>();
        final Set<String> privates = new LinkedHashSet<>();
        int classes;
        private String inside = "none";

        Walk(Trees trees, CompilationUnitTree unit) {
            this.trees = trees;
            this.unit = unit;
        }

        @Override
        public Void scan(Tree tree, Void none) {
            if (tree != null) {
                say(!REFUSED.contains(tree.getKind()), "6", line(tree) + " has a " + tree.getKind());
            }
            return super.scan(tree, none);
        }

        @Override
        public Void visitClass(ClassTree tree, Void none) {
            classes++;
            Set<Modifier> how = tree.getModifiers().getFlags();
            boolean outer = tree.getSimpleName().contentEquals("TongueSight");
            say(outer || how.contains(Modifier.STATIC) && !how.contains(Modifier.PUBLIC), "2", "class "
                    + tree.getSimpleName());
            int fields = 0;
            for (Tree member : tree.getMembers()) {
                say(member.getKind() != Tree.Kind.BLOCK, "5", line(member) + " is an initialiser block");
                boolean field = member instanceof VariableTree;
                fields += field && !((VariableTree) member).getModifiers().getFlags().contains(Modifier.STATIC) ? 1 : 0;
            }
            say(fields <= FIELDS, "11", tree.getSimpleName() + " has " + fields + " fields");
            return super.visitClass(tree, none);
        }

        @Override
        public Void visitMethod(MethodTree tree, Void none) {
            String outside = inside;
            inside = nameOf(trees.getElement(getCurrentPath()));
            calls.putIfAbsent(inside, new LinkedHashSet<>());
            say(tree.getParameters().size() <= PARAMETERS, "11", inside + " has too many parameters");
            long lines = lineOf(trees.getSourcePositions().getEndPosition(unit, tree)) - line(tree) + 1;
            say(lines <= LINES, "11", inside + " has " + lines + " lines");
            Set<Modifier> how = tree.getModifiers().getFlags();
            boolean makes = tree.getReturnType() == null;
            if (!makes && how.contains(Modifier.PUBLIC)) {
                publics.add(tree.getName().toString());
            } else if (!makes && how.contains(Modifier.PRIVATE)) {
                privates.add(tree.getName().toString());
            }
            super.visitMethod(tree, none);
            inside = outside;
            return null;
        }

        @Override
        public Void visitMethodInvocation(MethodInvocationTree tree, Void none) {
            called(trees.getElement(getCurrentPath()), tree);
            return super.visitMethodInvocation(tree, none);
        }

        @Override
        public Void visitNewClass(NewClassTree tree, Void none) {
            called(trees.getElement(getCurrentPath()), tree);
            say(tree.getClassBody() == null, "2", line(tree) + " has a class without a name");
            return super.visitNewClass(tree, none);
        }

        @Override
        public Void visitVariable(VariableTree tree, Void none) {
            Set<Modifier> how = tree.getModifiers().getFlags();
            say(!how.contains(Modifier.STATIC) || how.contains(Modifier.FINAL), "5", tree.getName() + " is not final");
            return super.visitVariable(tree, none);
        }

        @Override
        public Void visitBinary(BinaryTree tree, Void none) {
            Tree.Kind kind = tree.getKind();
            boolean joins = kind == Tree.Kind.PLUS || kind == Tree.Kind.EQUAL_TO || kind == Tree.Kind.NOT_EQUAL_TO;
            boolean text = isText(tree.getLeftOperand()) || isText(tree.getRightOperand());
            say(!joins || !text, "10", line(tree) + " joins or compares texts: " + tree);
            boolean divides = kind == Tree.Kind.DIVIDE || kind == Tree.Kind.REMAINDER;
            say(!divides || isConstant(tree.getRightOperand()), "7", line(tree) + " divides by what may be 0: " + tree);
            return super.visitBinary(tree, none);
        }

        @Override
        public Void visitTypeCast(TypeCastTree tree, Void none) {
            say(tree.getType().getKind() == Tree.Kind.PRIMITIVE_TYPE, "6", line(tree) + " casts an object: " + tree);
            return super.visitTypeCast(tree, none);
        }

        @Override
        public Void visitAssignment(AssignmentTree tree, Void none) {
            changes(tree.getVariable());
            return super.visitAssignment(tree, none);
        }

        @Override
        public Void visitCompoundAssignment(CompoundAssignmentTree tree, Void none) {
            changes(tree.getVariable());
            return super.visitCompoundAssignment(tree, none);
        }

        /** The compiler looks at the static fields themselves; their elements are looked at here. */
        private void changes(Tree what) {
            if (what instanceof ArrayAccessTree row) {
                Element of = trees.getElement(new TreePath(getCurrentPath(), row.getExpression()));
                say(of == null || !of.getModifiers().contains(Modifier.STATIC), "5", line(what) + " changes " + what);
            }
        }

        private void called(Element what, Tree tree) {
            // super() of a class that extends nothing: the machine's own, and no call that was written.
            if (nameOf(what).equals("Object.<init>")) {
                return;
            }
            calls.computeIfAbsent(inside, k -> new LinkedHashSet<>()).add(nameOf(what));
            boolean ours = trees.getTree(what) != null || what.getEnclosingElement().toString().startsWith("TongueSight");
            boolean copies = what.getSimpleName().contentEquals("clone");
            say(ours || copies || LIBRARY.contains(nameOf(what)), "4", line(tree) + " calls " + nameOf(what));
        }

        private boolean isText(Tree tree) {
            return "java.lang.String".equals(String.valueOf(trees.getTypeMirror(new TreePath(getCurrentPath(), tree))));
        }

        /** A number that is written out, or a constant, and not 0. */
        private boolean isConstant(Tree tree) {
            if (tree.getKind() == Tree.Kind.INT_LITERAL) {
                return !tree.toString().equals("0");
            }
            Element what = trees.getElement(new TreePath(getCurrentPath(), tree));
            return what instanceof javax.lang.model.element.VariableElement v && v.getConstantValue() instanceof Integer n
                    && n != 0;
        }

        private static String nameOf(Element method) {
            if (!(method instanceof ExecutableElement)) {
                return "none";
            }
            TypeElement owner = (TypeElement) method.getEnclosingElement();
            return owner.getSimpleName() + "." + method.getSimpleName();
        }

        private long line(Tree tree) {
            return lineOf(trees.getSourcePositions().getStartPosition(unit, tree));
        }

        private long lineOf(long position) {
            return unit.getLineMap().getLineNumber(position);
        }
    }

    public static void main(String[] args) throws Exception {
        JavaCompiler compiler = ToolProvider.getSystemJavaCompiler();
        try (StandardJavaFileManager files = compiler.getStandardFileManager(null, null, null)) {
            JavacTask task = (JavacTask) compiler.getTask(null, files, null, List.of("--release", "17"), null,
                    files.getJavaFileObjects(SOURCE));
            CompilationUnitTree unit = task.parse().iterator().next();
            task.analyze();
            Walk walk = new Walk(Trees.instance(task), unit);
            walk.scan(unit, null);
            checkNames(walk);
            checkDepth(walk);
        }
        System.out.println(wrong == 0 ? "the rules of the language hold" : wrong + " rules do not hold");
        System.exit(wrong == 0 ? 0 : 1);
    }

    private static void say(boolean holds, String rule, String what) {
        if (!holds) {
            wrong++;
            System.out.println("rule " + rule + " does not hold: " + what);
        }
    }

    private static void checkNames(Walk walk) {
        for (String name : walk.privates) {
            say(!walk.publics.contains(name), "1", "a private method bears the name of a public one: " + name);
        }
        say(walk.publics.size() == 36, "1", "public names: " + walk.publics);
        say(walk.classes <= CLASSES, "11", walk.classes + " classes");
    }

    private static void checkDepth(Walk walk) {
        List<String> longest = new ArrayList<>();
        for (String from : walk.calls.keySet()) {
            List<String> chain = chainFrom(from, walk.calls, new ArrayList<>());
            longest = chain.size() > longest.size() ? chain : longest;
        }
        say(longest.size() > 4 && longest.size() <= DEEPEST, "11", "calls go " + longest.size() + " deep: " + longest);
    }

    /** The longest chain of calls, those of the library too; a method that calls itself counts once. */
    private static List<String> chainFrom(String from, Map<String, Set<String>> calls, List<String> open) {
        open.add(from);
        List<String> longest = new ArrayList<>();
        for (String next : calls.getOrDefault(from, Set.of())) {
            boolean itself = next.equals(from);
            say(itself || !open.contains(next), "8", "methods that call one another: " + open + " " + next);
            if (!open.contains(next)) {
                List<String> chain = chainFrom(next, calls, open);
                longest = chain.size() > longest.size() ? chain : longest;
            }
        }
        open.remove(open.size() - 1);
        longest.add(0, from);
        return longest;
    }
}
