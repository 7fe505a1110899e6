import com.sun.source.tree.BinaryTree;
import com.sun.source.tree.BlockTree;
import com.sun.source.tree.ClassTree;
import com.sun.source.tree.CompilationUnitTree;
import com.sun.source.tree.ForLoopTree;
import com.sun.source.tree.ImportTree;
import com.sun.source.tree.LiteralTree;
import com.sun.source.tree.MethodInvocationTree;
import com.sun.source.tree.MethodTree;
import com.sun.source.tree.NewArrayTree;
import com.sun.source.tree.NewClassTree;
import com.sun.source.tree.Tree;
import com.sun.source.tree.Tree.Kind;
import com.sun.source.tree.VariableTree;
import com.sun.source.tree.WhileLoopTree;
import com.sun.source.util.JavacTask;
import com.sun.source.util.TreePath;
import com.sun.source.util.TreePathScanner;
import com.sun.source.util.Trees;
import java.io.File;
import java.io.IOException;
import java.util.EnumSet;
import java.util.HashMap;
import java.util.LinkedHashSet;
import java.util.List;
import java.util.Map;
import java.util.Set;
import javax.lang.model.element.Element;
import javax.lang.model.element.Modifier;
import javax.tools.JavaCompiler;
import javax.tools.StandardJavaFileManager;
import javax.tools.ToolProvider;

/**
 * What of ../shared/LANGUAGE.md can be seen in the source's tree, by the rules' numbers. It is narrower than the rules
 * where the class needs less than they allow. Indices within bounds and the ends of loops remain for a reader.
 */
public final class LanguageTests {
    private static final String SOURCE = "src/main/java/TelescopeDesk.java";
    private static final int MOST_PARAMETERS = 7;
    private static final int MOST_LINES = 60;
    private static final int MOST_CLASSES = 12;
    private static final int MOST_FIELDS = 20;
    private static final int MOST_DEPTH = 8;

    private static final Set<String> LIBRARY = Set.of(
            "java.lang.Math.floorMod(int,int)", "java.lang.Math.abs(int)", "java.lang.Math.min(int,int)",
            "java.lang.Math.max(int,int)", "java.util.Arrays.fill(int[],int)",
            "java.lang.System.arraycopy(java.lang.Object,int,java.lang.Object,int,int)", "java.lang.Object.Object()");

    private static final Set<Kind> RULED_OUT = EnumSet.of(
            Kind.THROW, Kind.TRY, Kind.CATCH, Kind.SYNCHRONIZED, Kind.ASSERT, Kind.LAMBDA_EXPRESSION,
            Kind.MEMBER_REFERENCE, Kind.ANNOTATION, Kind.UNION_TYPE, Kind.DOUBLE_LITERAL, Kind.FLOAT_LITERAL,
            Kind.INSTANCE_OF, Kind.TYPE_CAST, Kind.DIVIDE_ASSIGNMENT, Kind.REMAINDER_ASSIGNMENT, Kind.DO_WHILE_LOOP);

    private static int wrong = 0;

    public static void main(String[] args) throws IOException {
        Watch.start(() -> "the reading of the source");
        JavaCompiler compiler = ToolProvider.getSystemJavaCompiler();
        try (StandardJavaFileManager files = compiler.getStandardFileManager(null, null, null)) {
            List<String> options = List.of("--release", "17", "-proc:none");
            JavacTask task = (JavacTask) compiler.getTask(
                    null, files, null, options, null, files.getJavaFileObjects(new File(SOURCE)));
            CompilationUnitTree unit = task.parse().iterator().next();
            task.analyze();
            Reader reader = new Reader(Trees.instance(task), unit);
            reader.scan(unit, null);
            reader.demandWhole();
        }
        System.out.println(wrong == 0 ? "the language is as due" : wrong + " faults in the language");
        if (wrong != 0) {
            System.exit(1);
        }
    }

    private static void demand(String rule, String what, boolean holds) {
        if (!holds) {
            wrong++;
            System.out.println("rule " + rule + ": not so: " + what);
        }
    }

    /** Goes through the tree once; who calls whom is kept for the end. */
    private static final class Reader extends TreePathScanner<Void, Void> {
        private final Trees trees;
        private final CompilationUnitTree unit;
        private final Map<Element, Set<Element>> calls = new HashMap<>();
        private final Set<Element> own = new LinkedHashSet<>();
        private int classes = 0;

        Reader(Trees trees, CompilationUnitTree unit) {
            this.trees = trees;
            this.unit = unit;
        }

        @Override
        public Void scan(Tree tree, Void nothing) {
            if (tree != null) {
                demand("2, 3, 6, 7 or 9", at(tree) + "has no " + tree.getKind(), !RULED_OUT.contains(tree.getKind()));
            }
            return super.scan(tree, nothing);
        }

        @Override
        public Void visitCompilationUnit(CompilationUnitTree tree, Void nothing) {
            demand("1", "there is no package", tree.getPackage() == null);
            demand("1", "one class stands in the file", tree.getTypeDecls().size() == 1);
            return super.visitCompilationUnit(tree, nothing);
        }

        @Override
        public Void visitImport(ImportTree tree, Void nothing) {
            String name = tree.getQualifiedIdentifier().toString();
            demand("4", "Arrays alone is imported, " + name, !tree.isStatic() && name.equals("java.util.Arrays"));
            return null;
        }

        @Override
        public Void visitClass(ClassTree tree, Void nothing) {
            classes++;
            demandPlace(tree);
            int fields = 0;
            for (Tree member : tree.getMembers()) {
                if (member instanceof VariableTree field && !demandConstant(field)) {
                    fields++;
                }
                boolean block = member instanceof BlockTree;
                demand("5", at(member) + "there is no initialiser block", !block);
            }
            demand("11", at(tree) + "at most " + MOST_FIELDS + " fields, " + fields, fields <= MOST_FIELDS);
            return super.visitClass(tree, nothing);
        }

        private void demandPlace(ClassTree tree) {
            Tree parent = getCurrentPath().getParentPath().getLeaf();
            Set<Modifier> modifiers = tree.getModifiers().getFlags();
            boolean outer = parent instanceof CompilationUnitTree;
            boolean inside = parent instanceof ClassTree && modifiers.contains(Modifier.STATIC);
            demand("2", at(tree) + "a class inside is static and no local one", outer || inside);
            demand("1", at(tree) + "a class inside is not public or protected",
                    outer || !modifiers.contains(Modifier.PUBLIC) && !modifiers.contains(Modifier.PROTECTED));
        }

        /** Whether the field is static, and so has to be a constant. */
        private boolean demandConstant(VariableTree field) {
            Set<Modifier> modifiers = field.getModifiers().getFlags();
            if (!modifiers.contains(Modifier.STATIC)) {
                return false;
            }
            demand("5", at(field) + "a static field is final", modifiers.contains(Modifier.FINAL));
            demand("5", at(field) + "a static field is an int", field.getType().toString().equals("int"));
            return true;
        }

        @Override
        public Void visitMethod(MethodTree tree, Void nothing) {
            own.add(trees.getElement(getCurrentPath()));
            int parameters = tree.getParameters().size();
            long lines = line(end(tree)) - line(start(tree)) + 1;
            demand("11", at(tree) + "at most " + MOST_PARAMETERS + " parameters", parameters <= MOST_PARAMETERS);
            demand("11", at(tree) + "at most " + MOST_LINES + " lines, " + lines, lines <= MOST_LINES);
            demand("6", at(tree) + "throws nothing", tree.getThrows().isEmpty());
            return super.visitMethod(tree, nothing);
        }

        @Override
        public Void visitVariable(VariableTree tree, Void nothing) {
            // 'var' leaves no tree of its own in the source, but the compiler puts the type there all the same.
            String type = tree.getType().toString();
            boolean known = Set.of("int", "int[]", "boolean", "Poly", "Term", "Term[]", "Combiner", "Splitter")
                    .contains(type.replace("TelescopeDesk.", ""));
            demand("3", at(tree) + "the type is a number's or an own class, " + type, known);
            return super.visitVariable(tree, nothing);
        }

        @Override
        public Void visitMethodInvocation(MethodInvocationTree tree, Void nothing) {
            noteCall(trees.getElement(getCurrentPath()), tree);
            if (tree.getMethodSelect().toString().equals("Math.floorMod")) {
                demandDivisor(tree, tree.getArguments().get(1));
            }
            return super.visitMethodInvocation(tree, nothing);
        }

        @Override
        public Void visitNewClass(NewClassTree tree, Void nothing) {
            demand("2", at(tree) + "there is no class without a name", tree.getClassBody() == null);
            demandInConstructor(tree);
            noteCall(trees.getElement(getCurrentPath()), tree);
            return super.visitNewClass(tree, nothing);
        }

        @Override
        public Void visitNewArray(NewArrayTree tree, Void nothing) {
            demandInConstructor(tree);
            return super.visitNewArray(tree, nothing);
        }

        /** Narrower than the rule: README.md says that no call makes an object. */
        private void demandInConstructor(Tree tree) {
            MethodTree method = methodAround(getCurrentPath());
            boolean made = method != null && method.getName().contentEquals("<init>");
            demand("12", at(tree) + "objects and rows are made in constructors alone", made);
        }

        @Override
        public Void visitLiteral(LiteralTree tree, Void nothing) {
            boolean plain = tree.getKind() == Kind.INT_LITERAL || tree.getKind() == Kind.BOOLEAN_LITERAL;
            demand("3", at(tree) + "a literal is an int or a boolean", plain);
            return null;
        }

        @Override
        public Void visitBinary(BinaryTree tree, Void nothing) {
            if (tree.getKind() == Kind.DIVIDE || tree.getKind() == Kind.REMAINDER) {
                demandDivisor(tree, tree.getRightOperand());
            }
            return super.visitBinary(tree, nothing);
        }

        /** A divisor other than the constant P would have to be looked at first. */
        private void demandDivisor(Tree tree, Tree divisor) {
            demand("7", at(tree) + "P alone divides, not " + divisor, divisor.toString().equals("P"));
        }

        @Override
        public Void visitForLoop(ForLoopTree tree, Void nothing) {
            boolean counted = tree.getCondition() != null && tree.getUpdate().size() == 1;
            demand("9", at(tree) + "a for has an end and one counter", counted);
            return super.visitForLoop(tree, nothing);
        }

        @Override
        public Void visitWhileLoop(WhileLoopTree tree, Void nothing) {
            String condition = tree.getCondition().toString();
            demand("9", at(tree) + "a while has an end, " + condition, condition.contains(">"));
            return super.visitWhileLoop(tree, nothing);
        }

        private void noteCall(Element called, Tree tree) {
            MethodTree method = methodAround(getCurrentPath());
            demand("5", at(tree) + "a call stands in a method", method != null);
            if (method != null && called != null) {
                Element caller = trees.getElement(trees.getPath(unit, method));
                calls.computeIfAbsent(caller, none -> new LinkedHashSet<>()).add(called);
            }
            demand("4", at(tree) + "the call is known", called != null);
        }

        void demandWhole() {
            demand("11", "at most " + MOST_CLASSES + " classes, " + classes, classes <= MOST_CLASSES);
            demand("1", "the methods were found", own.size() > 18 && !calls.isEmpty());
            for (Element caller : own) {
                for (Element called : calls.getOrDefault(caller, Set.of())) {
                    String name = called.getEnclosingElement() + "." + called;
                    boolean listed = LIBRARY.contains(name);
                    demand("4", caller + " calls what is listed, " + name, own.contains(called) || listed);
                }
                int depth = depth(caller, 1);
                demand("11", caller + " goes at most " + MOST_DEPTH + " deep, " + depth, depth <= MOST_DEPTH);
            }
        }

        /** Ends early past the bound, so that a method that calls itself is found too deep instead of never. */
        private int depth(Element caller, int above) {
            int deepest = above;
            if (above <= MOST_DEPTH) {
                for (Element called : calls.getOrDefault(caller, Set.of())) {
                    boolean counted = own.contains(called);
                    deepest = Math.max(deepest, counted ? depth(called, above + 1) : above);
                }
            }
            return deepest;
        }

        private MethodTree methodAround(TreePath path) {
            for (TreePath each = path; each != null; each = each.getParentPath()) {
                if (each.getLeaf() instanceof MethodTree method) {
                    return method;
                }
            }
            return null;
        }

        private String at(Tree tree) {
            long start = start(tree);
            return start < 0 ? "" : "line " + line(start) + ": ";
        }

        private long start(Tree tree) {
            return trees.getSourcePositions().getStartPosition(unit, tree);
        }

        private long end(Tree tree) {
            return trees.getSourcePositions().getEndPosition(unit, tree);
        }

        private long line(long position) {
            return position < 0 ? 0 : unit.getLineMap().getLineNumber(position);
        }
    }
}
