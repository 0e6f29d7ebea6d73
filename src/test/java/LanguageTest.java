import com.sun.source.tree.ArrayAccessTree;
import com.sun.source.tree.AssignmentTree;
import com.sun.source.tree.BinaryTree;
import com.sun.source.tree.ClassTree;
import com.sun.source.tree.CompilationUnitTree;
import com.sun.source.tree.CompoundAssignmentTree;
import com.sun.source.tree.ExpressionTree;
import com.sun.source.tree.IdentifierTree;
import com.sun.source.tree.MemberSelectTree;
import com.sun.source.tree.MethodInvocationTree;
import com.sun.source.tree.MethodTree;
import com.sun.source.tree.NewArrayTree;
import com.sun.source.tree.NewClassTree;
import com.sun.source.tree.Tree;
import com.sun.source.tree.TypeCastTree;
import com.sun.source.tree.UnaryTree;
import com.sun.source.tree.VariableTree;
import com.sun.source.util.JavacTask;
import com.sun.source.util.TreePath;
import com.sun.source.util.TreePathScanner;
import com.sun.source.util.Trees;
import java.nio.charset.StandardCharsets;
import java.nio.file.Files;
import java.nio.file.Path;
import java.util.ArrayList;
import java.util.HashSet;
import java.util.List;
import java.util.Map;
import java.util.Set;
import java.util.TreeMap;
import java.util.TreeSet;
import javax.lang.model.element.Element;
import javax.lang.model.element.ElementKind;
import javax.lang.model.element.Modifier;
import javax.lang.model.element.VariableElement;
import javax.lang.model.type.TypeMirror;
import javax.tools.JavaCompiler;
import javax.tools.StandardJavaFileManager;
import javax.tools.ToolProvider;

/** The rules of ../shared/LANGUAGE.md that can be seen in the tree that the compiler makes of the class. */
public final class LanguageTest {
    private static final Path CLASS = Path.of("src/main/java/TalkStrainer.java");
    private static final int DEEPEST = 8, LONGEST = 60, CLASSES = 12, FIELDS = 20, PARAMETERS = 7;

    // the kinds of tree that the class needs; LANGUAGE.md leaves some more, which may be added here
    private static final Set<String> KINDS = Set.of("COMPILATION_UNIT", "CLASS", "METHOD", "VARIABLE", "BLOCK", "MODIFIERS",
        "PRIMITIVE_TYPE", "ARRAY_TYPE", "IDENTIFIER", "MEMBER_SELECT", "METHOD_INVOCATION", "NEW_CLASS", "NEW_ARRAY",
        "ARRAY_ACCESS", "ASSIGNMENT", "EXPRESSION_STATEMENT", "RETURN", "IF", "FOR_LOOP", "WHILE_LOOP", "BREAK", "CONTINUE",
        "SWITCH", "CASE", "CONSTANT_CASE_LABEL", "DEFAULT_CASE_LABEL", "PARENTHESIZED", "CONDITIONAL_EXPRESSION", "TYPE_CAST",
        "INT_LITERAL", "LONG_LITERAL", "BOOLEAN_LITERAL", "CHAR_LITERAL", "UNARY_MINUS", "BITWISE_COMPLEMENT",
        "LOGICAL_COMPLEMENT", "POSTFIX_INCREMENT", "POSTFIX_DECREMENT", "PLUS", "MINUS", "MULTIPLY", "DIVIDE", "REMAINDER",
        "LESS_THAN", "LESS_THAN_EQUAL", "GREATER_THAN", "GREATER_THAN_EQUAL", "EQUAL_TO", "NOT_EQUAL_TO", "CONDITIONAL_AND",
        "CONDITIONAL_OR", "AND", "OR", "XOR", "LEFT_SHIFT", "RIGHT_SHIFT", "UNSIGNED_RIGHT_SHIFT", "PLUS_ASSIGNMENT",
        "MINUS_ASSIGNMENT", "OR_ASSIGNMENT");
    private static final Set<String> LIBRARY = Set.of("java.lang.System.arraycopy", "java.lang.Math.min", "java.lang.Math.max",
        "java.lang.Math.abs", "java.lang.Integer.bitCount");
    private static final Set<String> TYPES = Set.of("int", "long", "short", "byte", "char", "boolean", "void");
    // who calls itself, and how it ends: readLevel and readOperand at MOST_OPEN, run at DEEPEST
    private static final Set<String> RECURSIVE = Set.of("TalkStrainer.Law.readLevel", "TalkStrainer.Law.readOperand",
        "TalkStrainer.Leaves.run", "TalkStrainer.Leaves.answerOf");

    private static int wrong = 0;

    private static void check(boolean holds, int rule, String what) {
        if (!holds) {
            wrong++;
            System.out.println("LANGUAGE.md rule " + rule + ": " + what);
        }
    }

    public static void main(String[] args) throws Exception {
        String text = Files.readString(CLASS, StandardCharsets.ISO_8859_1);
        for (int at = 0; at < text.length(); at++) {
            char sign = text.charAt(at);
            check(sign == '\n' || sign >= 32 && sign < 127, 4, "a sign that is not plain, at " + at);
        }
        JavaCompiler compiler = ToolProvider.getSystemJavaCompiler();
        if (compiler == null) {
            System.out.println("the compiler of this machine can't be asked");
            System.exit(1);
        }
        StandardJavaFileManager files = compiler.getStandardFileManager(null, null, null);
        JavacTask task = (JavacTask) compiler.getTask(null, files, null, List.of("-proc:none"), null, files.getJavaFileObjects(CLASS));
        CompilationUnitTree unit = task.parse().iterator().next();
        task.analyze();
        Rules rules = new Rules(unit, Trees.instance(task));
        rules.scan(unit, null);
        calls(rules.calls);
        check(rules.classes <= CLASSES + 1, 11, rules.classes + " classes");
        System.out.println(wrong == 0 ? rules.calls.size() + " methods keep to LANGUAGE.md" : wrong + " things are not as due");
        if (wrong != 0) {
            System.exit(1);
        }
    }

    /** Nobody calls itself but those that may, and no call goes too deep, the public one counted with the others. */
    private static void calls(Map<String, Set<String>> calls) {
        for (String method : calls.keySet()) {
            boolean itself = reach(calls, method).contains(method);
            check(itself == RECURSIVE.contains(method), 8, method + (itself ? " calls itself" : " is told as one that calls itself"));
        }
        for (String method : calls.keySet()) {
            List<String> path = deepest(calls, method, new HashSet<>());
            check(path.size() <= DEEPEST, 11, path.size() + " calls deep: " + path);
        }
    }

    private static Set<String> reach(Map<String, Set<String>> calls, String from) {
        Set<String> reached = new TreeSet<>();
        List<String> open = new ArrayList<>(calls.get(from));
        while (!open.isEmpty()) {
            String one = open.remove(open.size() - 1);
            if (reached.add(one)) {
                open.addAll(calls.getOrDefault(one, Set.of()));
            }
        }
        return reached;
    }

    private static List<String> deepest(Map<String, Set<String>> calls, String from, Set<String> above) {
        List<String> best = new ArrayList<>();
        above.add(from);
        for (String next : calls.getOrDefault(from, Set.of())) {
            if (!above.contains(next)) {
                List<String> path = deepest(calls, next, above);
                best = path.size() > best.size() ? path : best;
            }
        }
        above.remove(from);
        best.add(0, from);
        return best;
    }

    private static final class Rules extends TreePathScanner<Void, Void> {
        private final CompilationUnitTree unit;
        private final Trees trees;
        private final Map<String, Set<String>> calls = new TreeMap<>();
        private final Set<String> publicNames = new TreeSet<>();
        private int classes;
        private String method = "";

        Rules(CompilationUnitTree unit, Trees trees) {
            this.unit = unit;
            this.trees = trees;
        }

        private String at(Tree tree) {
            return "line " + unit.getLineMap().getLineNumber(trees.getSourcePositions().getStartPosition(unit, tree)) + ": ";
        }

        private long lines(Tree tree) {
            long start = unit.getLineMap().getLineNumber(trees.getSourcePositions().getStartPosition(unit, tree));
            return unit.getLineMap().getLineNumber(trees.getSourcePositions().getEndPosition(unit, tree)) - start + 1;
        }

        private Element element(Tree tree) {
            return trees.getElement(new TreePath(getCurrentPath(), tree));
        }

        private Element own() {
            return trees.getElement(getCurrentPath());
        }

        private static boolean isTop(Element of) {
            return of.getEnclosingElement().getKind() == ElementKind.PACKAGE;
        }

        private static boolean isAllowed(TypeMirror type) {
            String name = type.toString();
            String each = name.replace("[]", "");
            int dimensions = (name.length() - each.length()) / 2;
            return TYPES.contains(each) && dimensions <= 2 || each.startsWith("TalkStrainer") && dimensions <= 1;
        }

        @Override
        public Void scan(Tree tree, Void nothing) {
            if (tree != null) {
                check(KINDS.contains(tree.getKind().name()), 10, at(tree) + tree.getKind());
            }
            return super.scan(tree, nothing);
        }

        @Override
        public Void visitClass(ClassTree tree, Void nothing) {
            classes++;
            Set<Modifier> with = tree.getModifiers().getFlags();
            if (isTop(own())) {
                check(with.equals(Set.of(Modifier.PUBLIC, Modifier.FINAL)), 1, "public and final: " + tree.getSimpleName());
                check(unit.getPackageName() == null && unit.getTypeDecls().size() == 1 && unit.getImports().isEmpty(), 1, "one class alone");
            } else {
                check(with.contains(Modifier.STATIC) && !with.contains(Modifier.PUBLIC) && !with.contains(Modifier.PROTECTED), 2,
                    "static inside: " + tree.getSimpleName());
            }
            check(tree.getExtendsClause() == null && tree.getImplementsClause().isEmpty(), 2, "of nothing above: " + tree.getSimpleName());
            int fields = 0;
            for (Tree member : tree.getMembers()) {
                boolean isField = member instanceof VariableTree;
                fields += isField && !((VariableTree) member).getModifiers().getFlags().contains(Modifier.STATIC) ? 1 : 0;
                check(isField || member instanceof MethodTree || member instanceof ClassTree, 5, at(member) + "a block of its own");
                if (member instanceof MethodTree && ((MethodTree) member).getModifiers().getFlags().contains(Modifier.PUBLIC)) {
                    publicNames.add(((MethodTree) member).getName().toString());
                }
            }
            check(fields <= FIELDS, 11, fields + " fields: " + tree.getSimpleName());
            return super.visitClass(tree, nothing);
        }

        @Override
        public Void visitMethod(MethodTree tree, Void nothing) {
            String outer = method;
            method = own().getEnclosingElement() + "." + tree.getName();
            check(!calls.containsKey(method), 1, at(tree) + "two of one name: " + method);
            calls.put(method, new TreeSet<>());
            boolean isPublic = tree.getModifiers().getFlags().contains(Modifier.PUBLIC);
            boolean isNew = tree.getName().contentEquals("<init>");
            check(isPublic || isNew || !publicNames.contains(tree.getName().toString()), 1, at(tree) + "the name of a public call");
            check(!isTop(own().getEnclosingElement()) || isPublic || tree.getModifiers().getFlags().contains(Modifier.PRIVATE), 1,
                at(tree) + "public or private: " + method);
            check(!isPublic || isTop(own().getEnclosingElement()), 1, at(tree) + "public inside: " + method);
            check(!Set.of("equals", "hashCode", "toString", "finalize").contains(tree.getName().toString()), 6, at(tree) + method);
            check(tree.getThrows().isEmpty() && tree.getTypeParameters().isEmpty(), 6, at(tree) + method);
            check(tree.getParameters().size() <= PARAMETERS, 11, at(tree) + tree.getParameters().size() + " parameters");
            check(lines(tree) <= LONGEST, 11, at(tree) + lines(tree) + " lines");
            super.visitMethod(tree, nothing);
            method = outer;
            return null;
        }

        @Override
        public Void visitVariable(VariableTree tree, Void nothing) {
            Element one = own();
            check(isAllowed(one.asType()), 3, at(tree) + one.asType());
            if (one.getKind() == ElementKind.FIELD) {
                Set<Modifier> with = one.getModifiers();
                boolean isConstant = ((VariableElement) one).getConstantValue() != null;
                boolean isWritten = tree.getInitializer() instanceof NewArrayTree && ((NewArrayTree) tree.getInitializer()).getDimensions().isEmpty();
                check(!with.contains(Modifier.STATIC) || with.contains(Modifier.FINAL) && (isConstant || isWritten), 5, at(tree) + tree.getName());
                boolean isFace = with.contains(Modifier.PUBLIC) && with.contains(Modifier.STATIC);
                check(with.contains(Modifier.PRIVATE) || isFace || !isTop(one.getEnclosingElement()), 1, at(tree) + tree.getName());
            }
            return super.visitVariable(tree, nothing);
        }

        @Override
        public Void visitMethodInvocation(MethodInvocationTree tree, Void nothing) {
            Element called = element(tree.getMethodSelect());
            String name = called.getEnclosingElement() + "." + called.getSimpleName();
            if (name.startsWith("TalkStrainer")) {
                calls.get(method).add(name);
            } else {
                check(LIBRARY.contains(name) || name.equals("java.lang.Object.<init>"), 4, at(tree) + name);
            }
            return super.visitMethodInvocation(tree, nothing);
        }

        @Override
        public Void visitNewClass(NewClassTree tree, Void nothing) {
            check(method.endsWith(".<init>") && tree.getClassBody() == null, 12, at(tree) + "made in constructors alone");
            calls.get(method).add(element(tree.getIdentifier()) + ".<init>");
            return super.visitNewClass(tree, nothing);
        }

        @Override
        public Void visitNewArray(NewArrayTree tree, Void nothing) {
            boolean ofField = getCurrentPath().getParentPath().getLeaf() instanceof VariableTree && method.isEmpty();
            check(method.endsWith(".<init>") || ofField, 12, at(tree) + "made in constructors alone");
            return super.visitNewArray(tree, nothing);
        }

        @Override
        public Void visitTypeCast(TypeCastTree tree, Void nothing) {
            check(TYPES.contains(tree.getType().toString()), 6, at(tree) + "a cast to " + tree.getType());
            return super.visitTypeCast(tree, nothing);
        }

        @Override
        public Void visitBinary(BinaryTree tree, Void nothing) {
            plain(tree, tree.getLeftOperand());
            plain(tree, tree.getRightOperand());
            return super.visitBinary(tree, nothing);
        }

        /** The class joins and compares numbers and booleans alone, no texts and no objects. */
        private void plain(Tree whole, ExpressionTree part) {
            TypeMirror type = trees.getTypeMirror(new TreePath(getCurrentPath(), part));
            check(type.getKind().isPrimitive(), 6, at(whole) + whole.getKind() + " of " + type);
        }

        @Override
        public Void visitAssignment(AssignmentTree tree, Void nothing) {
            unchanged(tree.getVariable());
            return super.visitAssignment(tree, nothing);
        }

        @Override
        public Void visitCompoundAssignment(CompoundAssignmentTree tree, Void nothing) {
            unchanged(tree.getVariable());
            return super.visitCompoundAssignment(tree, nothing);
        }

        @Override
        public Void visitUnary(UnaryTree tree, Void nothing) {
            if (tree.getKind() == Tree.Kind.POSTFIX_INCREMENT || tree.getKind() == Tree.Kind.POSTFIX_DECREMENT) {
                unchanged(tree.getExpression());
            }
            return super.visitUnary(tree, nothing);
        }

        private void unchanged(ExpressionTree variable) {
            TreePath path = new TreePath(getCurrentPath(), variable);
            Tree row = variable;
            while (row instanceof ArrayAccessTree) {
                row = ((ArrayAccessTree) row).getExpression();
                path = new TreePath(path, row);
            }
            boolean isNamed = row instanceof IdentifierTree || row instanceof MemberSelectTree;
            Element changed = isNamed ? trees.getElement(path) : null;
            check(changed != null && !changed.getModifiers().contains(Modifier.STATIC), 5, at(variable) + "changes " + variable);
        }
    }
}
