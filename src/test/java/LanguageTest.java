import com.sun.source.tree.*;
import com.sun.source.util.JavacTask;
import com.sun.source.util.TreePath;
import com.sun.source.util.TreePathScanner;
import com.sun.source.util.Trees;
import java.nio.file.Files;
import java.nio.file.Path;
import java.util.ArrayList;
import java.util.EnumSet;
import java.util.LinkedHashMap;
import java.util.LinkedHashSet;
import java.util.List;
import java.util.Map;
import java.util.Set;
import javax.lang.model.element.Element;
import javax.lang.model.element.ElementKind;
import javax.lang.model.element.ExecutableElement;
import javax.lang.model.element.Modifier;
import javax.tools.JavaCompiler;
import javax.tools.StandardJavaFileManager;
import javax.tools.ToolProvider;

/** The rules of LANGUAGE.md that a compiler can see in the class; the numbers are the rules'. */
public final class LanguageTest {
    /** What the class uses of the part that the rules leave; what else they leave may be added when it is used. */
    private static final Set<String> TYPES = Set.of("int", "long", "boolean", "void", "int[]", "int[][]", "java.lang.String");
    private static final Set<String> LIBRARY = Set.of("java.lang.Math.max", "java.lang.Math.min", "java.lang.Integer.bitCount",
        "java.lang.System.arraycopy", "java.lang.String.length", "java.lang.String.charAt");
    private static final Set<Tree.Kind> FORBIDDEN = EnumSet.of(Tree.Kind.THROW, Tree.Kind.TRY, Tree.Kind.CATCH,
        Tree.Kind.SYNCHRONIZED, Tree.Kind.ASSERT, Tree.Kind.LAMBDA_EXPRESSION, Tree.Kind.MEMBER_REFERENCE, Tree.Kind.IMPORT,
        Tree.Kind.PACKAGE, Tree.Kind.SWITCH_EXPRESSION, Tree.Kind.INSTANCE_OF, Tree.Kind.ANNOTATION);

    public static void main(String[] args) throws Exception {
        Path file = Path.of(args.length > 0 ? args[0] : "src/main/java/CellsInRow.java");
        JavaCompiler compiler = ToolProvider.getSystemJavaCompiler();
        try (StandardJavaFileManager files = compiler.getStandardFileManager(null, null, null)) {
            JavacTask task = (JavacTask) compiler.getTask(null, files, null, List.of("--release", "17"), null,
                files.getJavaFileObjects(file));
            CompilationUnitTree unit = task.parse().iterator().next();
            task.analyze();
            Due.is("1 classes of the file", unit.getTypeDecls().size(), 1);
            Reader reader = new Reader(Trees.instance(task), unit);
            reader.scan(unit, null);
            reader.whole();
        }
        String all = Files.readString(file);
        Due.that("4 signs of the text", all.chars().allMatch(c -> c == '\n' || c >= 32 && c < 127));
        Due.finish();
    }

    private static final class Reader extends TreePathScanner<Void, Void> {
        private final Trees trees;
        private final CompilationUnitTree unit;
        private final Map<Element, Set<Element>> calls = new LinkedHashMap<>();
        private final Set<String> publicNames = new LinkedHashSet<>();
        private final List<String> otherNames = new ArrayList<>();
        private int classes = 0;

        Reader(Trees trees, CompilationUnitTree unit) {
            this.trees = trees;
            this.unit = unit;
        }

        @Override
        public Void scan(Tree tree, Void nothing) {
            if (tree != null) {
                Due.that("2, 6 " + tree.getKind() + at(tree), !FORBIDDEN.contains(tree.getKind()));
            }
            return super.scan(tree, nothing);
        }

        @Override
        public Void visitClass(ClassTree tree, Void nothing) {
            classes++;
            Set<Modifier> is = tree.getModifiers().getFlags();
            boolean outer = getCurrentPath().getParentPath().getLeaf() == unit;
            Due.that("1, 2 class " + tree.getSimpleName(), is.equals(outer ? Set.of(Modifier.PUBLIC, Modifier.FINAL)
                : Set.of(Modifier.PRIVATE, Modifier.STATIC, Modifier.FINAL)));
            int fields = 0;
            for (Tree member : tree.getMembers()) {
                Due.that("5 no block beside methods" + at(member), member.getKind() != Tree.Kind.BLOCK);
                if (member instanceof VariableTree v && !v.getModifiers().getFlags().contains(Modifier.STATIC)) {
                    fields++;
                }
            }
            Due.that("11 fields of " + tree.getSimpleName(), fields <= 20);
            return super.visitClass(tree, nothing);
        }

        @Override
        public Void visitMethod(MethodTree tree, Void nothing) {
            String name = tree.getName().toString();
            boolean outer = getCurrentPath().getParentPath().getParentPath().getLeaf() == unit;
            Set<Modifier> is = tree.getModifiers().getFlags();
            boolean made = name.equals("<init>");
            if (outer && !made) {
                Due.that("1 " + name + " is public or private", is.contains(Modifier.PUBLIC) || is.contains(Modifier.PRIVATE));
            }
            if (is.contains(Modifier.PUBLIC)) {
                publicNames.add(name);
            } else if (!made) {
                otherNames.add(name);
            }
            Due.that("11 parameters of " + name, tree.getParameters().size() <= 7);
            long first = unit.getLineMap().getLineNumber(trees.getSourcePositions().getStartPosition(unit, tree));
            long last = unit.getLineMap().getLineNumber(Math.max(0, trees.getSourcePositions().getEndPosition(unit, tree)));
            Due.that("11 lines of " + name, made || last - first < 60);
            Element element = trees.getElement(getCurrentPath());
            calls.put(element, calls.getOrDefault(element, new LinkedHashSet<>()));
            return super.visitMethod(tree, nothing);
        }

        @Override
        public Void visitVariable(VariableTree tree, Void nothing) {
            Element element = trees.getElement(getCurrentPath());
            String type = element.asType().toString();
            Due.that("3 type " + type + at(tree), isType(type));
            if (element.getModifiers().contains(Modifier.STATIC)) {
                Due.that("5 " + tree.getName() + " is a constant", element.getModifiers().contains(Modifier.FINAL)
                    && Set.of("int", "long", "boolean", "char", "java.lang.String").contains(type));
            }
            return super.visitVariable(tree, nothing);
        }

        @Override
        public Void visitMethodInvocation(MethodInvocationTree tree, Void nothing) {
            ExecutableElement called = (ExecutableElement) trees.getElement(getCurrentPath());
            String owner = called.getEnclosingElement().toString();
            String name = owner + "." + called.getSimpleName();
            boolean own = owner.startsWith("CellsInRow");
            Due.that("4 call of " + name + at(tree), own || LIBRARY.contains(name) || isSuper(called));
            Element from = enclosing();
            if (own && from != null) {
                calls.computeIfAbsent(from, k -> new LinkedHashSet<>()).add(called);
            }
            return super.visitMethodInvocation(tree, nothing);
        }

        @Override
        public Void visitNewClass(NewClassTree tree, Void nothing) {
            Due.that("2 no class without a name" + at(tree), tree.getClassBody() == null);
            Due.that("12 made with the object" + at(tree), isMadeWithTheObject());
            return super.visitNewClass(tree, nothing);
        }

        @Override
        public Void visitNewArray(NewArrayTree tree, Void nothing) {
            Due.that("12 made with the object" + at(tree), isMadeWithTheObject());
            return super.visitNewArray(tree, nothing);
        }

        @Override
        public Void visitBinary(BinaryTree tree, Void nothing) {
            String type = trees.getTypeMirror(getCurrentPath()).toString();
            Due.that("10 no text is joined by +" + at(tree), type.equals("int") || type.equals("long") || type.equals("boolean"));
            Due.that("6 no texts are compared by ==" + at(tree), !isText(tree.getLeftOperand()) && !isText(tree.getRightOperand()));
            return super.visitBinary(tree, nothing);
        }

        @Override
        public Void visitTypeCast(TypeCastTree tree, Void nothing) {
            Due.that("6 casts of numbers alone" + at(tree), tree.getType().getKind() == Tree.Kind.PRIMITIVE_TYPE);
            return super.visitTypeCast(tree, nothing);
        }

        @Override
        public Void visitForLoop(ForLoopTree tree, Void nothing) {
            Due.that("9 the loop has an end" + at(tree), tree.getCondition() != null && !tree.getUpdate().isEmpty());
            return super.visitForLoop(tree, nothing);
        }

        void whole() {
            Due.that("11 classes", classes <= 12);
            for (String name : otherNames) {
                Due.that("1 " + name + " bears no public name", !publicNames.contains(name));
            }
            Due.that("methods are found", calls.size() > 60);
            for (Element method : calls.keySet()) {
                Due.that("8, 11 how deep " + method + " goes", depth(method, 1) <= 8);
            }
        }

        /** A method that calls itself, by whatever way, is deeper than any bound. */
        private int depth(Element method, int above) {
            int deepest = above;
            if (above <= 20) {
                for (Element called : calls.getOrDefault(method, Set.of())) {
                    deepest = Math.max(deepest, depth(called, above + 1));
                }
            }
            return deepest;
        }

        private boolean isType(String type) {
            return TYPES.contains(type) || type.matches("CellsInRow\\.\\w+(\\[\\])?");
        }

        private boolean isText(ExpressionTree tree) {
            return "java.lang.String".equals(String.valueOf(trees.getTypeMirror(new TreePath(getCurrentPath(), tree))));
        }

        private boolean isSuper(ExecutableElement called) {
            return called.getKind() == ElementKind.CONSTRUCTOR && called.getEnclosingElement().toString().equals("java.lang.Object");
        }

        private boolean isMadeWithTheObject() {
            Element method = enclosing();
            return method == null || method.getKind() == ElementKind.CONSTRUCTOR;
        }

        private Element enclosing() {
            for (TreePath p = getCurrentPath(); p != null; p = p.getParentPath()) {
                if (p.getLeaf() instanceof MethodTree) {
                    return trees.getElement(p);
                }
            }
            return null;
        }

        private String at(Tree tree) {
            long start = trees.getSourcePositions().getStartPosition(unit, tree);
            return start < 0 ? "" : " in line " + unit.getLineMap().getLineNumber(start);
        }
    }
}
