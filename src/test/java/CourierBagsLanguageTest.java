import com.sun.source.tree.*;
import com.sun.source.util.JavacTask;
import com.sun.source.util.TreePath;
import com.sun.source.util.TreePathScanner;
import com.sun.source.util.Trees;
import java.nio.file.Path;
import java.util.ArrayList;
import java.util.HashMap;
import java.util.LinkedHashMap;
import java.util.LinkedHashSet;
import java.util.List;
import java.util.Map;
import java.util.Set;
import javax.lang.model.element.Element;
import javax.lang.model.element.ElementKind;
import javax.lang.model.element.ExecutableElement;
import javax.lang.model.element.Modifier;
import javax.lang.model.element.TypeElement;
import javax.lang.model.type.TypeKind;
import javax.lang.model.type.TypeMirror;
import javax.tools.JavaCompiler;
import javax.tools.StandardJavaFileManager;
import javax.tools.ToolProvider;

/**
 * Holds the class, as the compiler reads it, against the rules of LANGUAGE.md that can be seen in a source. It is
 * narrower than they are: it lets through only what the class has a use for.
 */
public final class CourierBagsLanguageTest {
    private static final Path SOURCE = Path.of("src/main/java/CourierBags.java");
    private static final int MOST_CLASSES = 12;
    private static final int MOST_FIELDS = 20;
    private static final int MOST_PARAMETERS = 7;
    private static final int MOST_LINES = 60;
    private static final int DEEPEST_CALLS = 8;

    private static final Set<String> EXCEPTIONS = Set.of("IllegalStateException", "IllegalArgumentException",
            "IndexOutOfBoundsException", "ArithmeticException", "UnsupportedOperationException", "NoSuchElementException");
    private static final Set<String> LIBRARY = Set.of("String.length", "String.charAt", "StringBuilder.length",
            "StringBuilder.charAt", "StringBuilder.setLength", "StringBuilder.append", "Math.max", "Math.min");
    private static final Set<String> APPENDED = Set.of("char", "int", "java.lang.String");
    private static final Set<Tree.Kind> RULED_OUT = Set.of(Tree.Kind.LAMBDA_EXPRESSION, Tree.Kind.MEMBER_REFERENCE,
            Tree.Kind.TRY, Tree.Kind.SYNCHRONIZED, Tree.Kind.ASSERT, Tree.Kind.SWITCH_EXPRESSION, Tree.Kind.INSTANCE_OF,
            Tree.Kind.ANNOTATION, Tree.Kind.NULL_LITERAL, Tree.Kind.PARAMETERIZED_TYPE, Tree.Kind.UNION_TYPE,
            Tree.Kind.FLOAT_LITERAL, Tree.Kind.DOUBLE_LITERAL, Tree.Kind.DO_WHILE_LOOP, Tree.Kind.LABELED_STATEMENT,
            Tree.Kind.DIVIDE_ASSIGNMENT, Tree.Kind.REMAINDER, Tree.Kind.REMAINDER_ASSIGNMENT);

    private static int wrong = 0;
    private static Trees trees;
    private static CompilationUnitTree unit;

    public static void main(String[] args) throws Exception {
        JavaCompiler compiler = ToolProvider.getSystemJavaCompiler();
        try (StandardJavaFileManager files = compiler.getStandardFileManager(null, null, null)) {
            JavacTask task = (JavacTask) compiler.getTask(null, files, null, List.of("--release", "17", "-proc:none"), null,
                    files.getJavaFileObjects(SOURCE));
            unit = task.parse().iterator().next();
            task.analyze();
            trees = Trees.instance(task);
            Reader reader = new Reader();
            reader.scan(unit, null);
            checkFile(reader);
            checkCalls(reader);
        }
        System.out.println(wrong == 0 ? "the source keeps to LANGUAGE.md" : wrong + " faults in the source");
        if (wrong != 0) {
            System.exit(1);
        }
    }

    private static void fault(int rule, Tree tree, String text) {
        wrong++;
        long line = unit.getLineMap().getLineNumber(trees.getSourcePositions().getStartPosition(unit, tree));
        System.out.println("rule " + rule + ", line " + line + ": " + text);
    }

    private static void check(boolean holds, int rule, Tree tree, String text) {
        if (!holds) {
            fault(rule, tree, text);
        }
    }

    private static boolean isOwn(Element element) {
        Element outermost = element;
        while (outermost.getEnclosingElement() != null && outermost.getEnclosingElement().getKind() != ElementKind.PACKAGE) {
            outermost = outermost.getEnclosingElement();
        }
        return outermost.getSimpleName().contentEquals("CourierBags");
    }

    private static void checkFile(Reader reader) {
        check(unit.getPackageName() == null, 1, unit, "a package line");
        check(unit.getTypeDecls().size() == 1, 1, unit, "more than one class on top");
        for (ImportTree line : unit.getImports()) {
            check(line.getQualifiedIdentifier().toString().equals("java.util.NoSuchElementException"), 4, line,
                    "imports " + line.getQualifiedIdentifier());
        }
        check(reader.classes <= MOST_CLASSES, 11, unit, reader.classes + " classes");
        check(reader.classes > 1 && reader.calls.size() > 49 && reader.loops > 0 && reader.throwing > 0, 0, unit,
                "the test has not read the source");
    }

    // ---- calls of the class's own methods

    private static void checkCalls(Reader reader) {
        Map<ExecutableElement, Integer> depths = new HashMap<>();
        for (ExecutableElement method : reader.calls.keySet()) {
            int depth = depth(reader, method, depths, new ArrayList<>());
            check(depth <= DEEPEST_CALLS, 11, unit, method + " leads " + depth + " calls deep");
        }
    }

    /** How many calls stand open at most, those of the library included; a method that calls itself counts once. */
    private static int depth(Reader reader, ExecutableElement method, Map<ExecutableElement, Integer> depths,
            List<ExecutableElement> open) {
        if (depths.containsKey(method)) {
            return depths.get(method);
        }
        open.add(method);
        int below = 0;
        for (ExecutableElement called : reader.calls.getOrDefault(method, Set.of())) {
            if (called.equals(method)) {
                check(method.getModifiers().containsAll(Set.of(Modifier.PRIVATE, Modifier.STATIC)), 8, unit,
                        "calls itself: " + method);
            } else if (open.contains(called)) {
                fault(8, unit, "call one another: " + method + " and " + called);
            } else {
                below = Math.max(below, depth(reader, called, depths, open));
            }
        }
        open.remove(method);
        depths.put(method, below + 1);
        return below + 1;
    }

    private static final class Reader extends TreePathScanner<Void, Void> {
        final Map<ExecutableElement, Set<ExecutableElement>> calls = new LinkedHashMap<>();
        int classes = 0;
        int loops = 0;
        int throwing = 0;
        private ExecutableElement method;
        private MethodTree methodTree;

        @Override
        public Void scan(Tree tree, Void unused) {
            if (tree != null) {
                check(!RULED_OUT.contains(tree.getKind()), 10, tree, "a " + tree.getKind());
            }
            return super.scan(tree, unused);
        }

        private Element element(Tree tree) {
            return trees.getElement(TreePath.getPath(unit, tree));
        }

        private TypeMirror type(Tree tree) {
            return trees.getTypeMirror(TreePath.getPath(unit, tree));
        }

        // ---- classes and fields

        @Override
        public Void visitClass(ClassTree tree, Void unused) {
            classes++;
            TypeElement element = (TypeElement) element(tree);
            boolean isOutermost = element.getEnclosingElement().getKind() == ElementKind.PACKAGE;
            check(isOutermost || element.getEnclosingElement().getKind().isClass(), 2, tree, "a local class");
            check(isOutermost == element.getModifiers().contains(Modifier.PUBLIC), 1, tree, "public: " + element);
            check(isOutermost || element.getModifiers().contains(Modifier.STATIC), 2, tree, "not static: " + element);
            check(!element.getModifiers().contains(Modifier.PROTECTED), 1, tree, "protected: " + element);
            check(tree.getImplementsClause().isEmpty() && tree.getExtendsClause() == null, 2, tree, "a parent of " + element);
            int fields = 0;
            for (Tree member : tree.getMembers()) {
                check(member.getKind() != Tree.Kind.BLOCK, 5, member, "a block outside a method");
                if (member instanceof VariableTree field && !isConstant(field)) {
                    fields++;
                }
            }
            check(fields <= MOST_FIELDS, 11, tree, fields + " fields in " + element);
            return super.visitClass(tree, unused);
        }

        private boolean isConstant(VariableTree field) {
            return field.getModifiers().getFlags().contains(Modifier.STATIC);
        }

        @Override
        public Void visitVariable(VariableTree tree, Void unused) {
            Element element = element(tree);
            TypeMirror type = element.asType();
            check(isAllowed(type, element.getKind()), 3, tree, "a variable of the type " + type);
            if (element.getKind() == ElementKind.FIELD) {
                checkField(tree, element, type);
            }
            return super.visitVariable(tree, unused);
        }

        private void checkField(VariableTree tree, Element element, TypeMirror type) {
            boolean isStatic = element.getModifiers().contains(Modifier.STATIC);
            boolean isOfEnum = element.getEnclosingElement().getKind() == ElementKind.ENUM;
            if (isStatic) {
                check(element.getModifiers().contains(Modifier.FINAL), 5, tree, "static, but not final: " + element);
                boolean isKeptValues = isOfEnum && String.valueOf(tree.getInitializer()).equals("values()");
                check(isKeptValues || Set.of("int", "char", "long", "boolean", "java.lang.String").contains(type.toString()),
                        5, tree, "a static field of the type " + type);
            } else if (isOfEnum) {
                check(Set.of("int", "long", "boolean", "java.lang.String").contains(type.toString()), 2, tree,
                        "a field of an enum of the type " + type);
            }
            boolean isOnTop = element.getEnclosingElement().getEnclosingElement().getKind() == ElementKind.PACKAGE;
            boolean isPublic = element.getModifiers().contains(Modifier.PUBLIC);
            check(!isOnTop || isPublic || element.getModifiers().contains(Modifier.PRIVATE), 1, tree, "not private: " + element);
        }

        private boolean isAllowed(TypeMirror type, ElementKind kind) {
            if (type.getKind().isPrimitive()) {
                return !Set.of(TypeKind.FLOAT, TypeKind.SHORT, TypeKind.BYTE).contains(type.getKind());
            }
            if (type instanceof javax.lang.model.type.ArrayType array) {
                return array.getComponentType().getKind() != TypeKind.ARRAY && isAllowed(array.getComponentType(), kind);
            }
            return Set.of("java.lang.String", "java.lang.StringBuilder").contains(type.toString())
                    || type instanceof javax.lang.model.type.DeclaredType own && isOwn(own.asElement());
        }

        // ---- methods

        @Override
        public Void visitMethod(MethodTree tree, Void unused) {
            ExecutableElement before = method;
            MethodTree treeBefore = methodTree;
            method = (ExecutableElement) element(tree);
            methodTree = tree;
            calls.putIfAbsent(method, new LinkedHashSet<>());
            check(tree.getParameters().size() <= MOST_PARAMETERS, 11, tree, "many parameters: " + method);
            check(lines(tree) <= MOST_LINES, 11, tree, lines(tree) + " lines: " + method);
            boolean isOnTop = method.getEnclosingElement().getEnclosingElement().getKind() == ElementKind.PACKAGE;
            boolean isPublic = method.getModifiers().contains(Modifier.PUBLIC);
            check(!isOnTop || isPublic || method.getModifiers().contains(Modifier.PRIVATE), 1, tree, "not private: " + method);
            check(isOnTop || !isPublic, 1, tree, "public in a class inside: " + method);
            checkName(tree, isOnTop && isPublic);
            super.visitMethod(tree, unused);
            method = before;
            methodTree = treeBefore;
            return null;
        }

        private long lines(Tree tree) {
            long start = trees.getSourcePositions().getStartPosition(unit, tree);
            long end = trees.getSourcePositions().getEndPosition(unit, tree);
            return end < 0 ? 0 : unit.getLineMap().getLineNumber(end) - unit.getLineMap().getLineNumber(start) + 1;
        }

        private void checkName(MethodTree tree, boolean isOfTheFace) {
            if (isOfTheFace || method.getKind() == ElementKind.CONSTRUCTOR) {
                return;
            }
            for (java.lang.reflect.Method other : CourierBags.class.getDeclaredMethods()) {
                boolean isOther = java.lang.reflect.Modifier.isPublic(other.getModifiers());
                check(!isOther || !method.getSimpleName().contentEquals(other.getName()), 1, tree,
                        "bears the name of a public one: " + method);
            }
        }

        // ---- calls and new objects

        @Override
        public Void visitMethodInvocation(MethodInvocationTree tree, Void unused) {
            ExecutableElement called = (ExecutableElement) element(tree.getMethodSelect());
            if (method != null) {
                calls.get(method).add(called);
            }
            // What StringBuilder inherits bears the name of its hidden parent.
            String owner = called.getEnclosingElement().getSimpleName().toString().replace("AbstractString", "String");
            String name = owner + "." + called.getSimpleName();
            boolean isGiven = called.getKind() == ElementKind.CONSTRUCTOR || name.endsWith(".values");
            check(isOwn(called) || isGiven || LIBRARY.contains(name), 4, tree, "calls " + name);
            if (name.equals("StringBuilder.append")) {
                String given = called.getParameters().get(0).asType().toString();
                check(APPENDED.contains(given), 4, tree, "appends a " + given);
            }
            if (method != null && method.getKind() == ElementKind.CONSTRUCTOR) {
                check(!isOwn(called), 12, tree, "a constructor calls " + name);
            }
            return super.visitMethodInvocation(tree, unused);
        }

        @Override
        public Void visitNewClass(NewClassTree tree, Void unused) {
            boolean isThrown = getCurrentPath().getParentPath().getLeaf().getKind() == Tree.Kind.THROW;
            check(tree.getClassBody() == null || method == null, 2, tree, "an anonymous class");
            checkMade(tree, isThrown);
            if (method != null && isOwn(element(tree))) {
                calls.get(method).add((ExecutableElement) element(tree));
            }
            return super.visitNewClass(tree, unused);
        }

        @Override
        public Void visitNewArray(NewArrayTree tree, Void unused) {
            checkMade(tree, false);
            return super.visitNewArray(tree, unused);
        }

        /** The class makes all that it holds at first, so that the calls of a run need no room. */
        private void checkMade(Tree tree, boolean isThrown) {
            check(isThrown || method == null || method.getKind() == ElementKind.CONSTRUCTOR, 12, tree,
                    "made in a call: " + tree);
        }

        @Override
        public Void visitThrow(ThrowTree tree, Void unused) {
            throwing++;
            check(method != null && method.getKind() != ElementKind.CONSTRUCTOR, 6, tree, "thrown in a constructor");
            boolean isNew = tree.getExpression() instanceof NewClassTree;
            check(isNew, 6, tree, "no new exception");
            if (tree.getExpression() instanceof NewClassTree made) {
                check(EXCEPTIONS.contains(made.getIdentifier().toString()), 6, tree, "throws " + made.getIdentifier());
                check(made.getArguments().isEmpty() || made.getArguments().get(0).getKind() == Tree.Kind.STRING_LITERAL, 6,
                        tree, "not a written text");
            }
            return super.visitThrow(tree, unused);
        }

        // ---- loops and expressions

        @Override
        public Void visitForLoop(ForLoopTree tree, Void unused) {
            loops++;
            check(tree.getCondition() != null && tree.getUpdate().size() == 1 && tree.getInitializer().size() == 1, 9, tree,
                    "a loop without a counter and a bound");
            if (tree.getCondition() instanceof BinaryTree bound && tree.getUpdate().get(0).getExpression() instanceof UnaryTree step) {
                boolean isUp = Set.of(Tree.Kind.LESS_THAN, Tree.Kind.LESS_THAN_EQUAL).contains(bound.getKind())
                        && step.getKind() == Tree.Kind.POSTFIX_INCREMENT;
                boolean isDown = Set.of(Tree.Kind.GREATER_THAN, Tree.Kind.GREATER_THAN_EQUAL).contains(bound.getKind())
                        && step.getKind() == Tree.Kind.POSTFIX_DECREMENT;
                check((isUp || isDown) && bound.getLeftOperand().toString().equals(step.getExpression().toString()), 9, tree,
                        "a counter that does not go to its bound");
            } else {
                fault(9, tree, "a loop whose end is not seen");
            }
            return super.visitForLoop(tree, unused);
        }

        @Override
        public Void visitWhileLoop(WhileLoopTree tree, Void unused) {
            loops++;
            String condition = tree.getCondition().toString();
            String counter = condition.replaceFirst("^\\(*(\\w+) < .*", "$1");
            check(!counter.equals(condition) && !condition.contains("||")
                    && tree.getStatement().toString().contains(counter + "++"), 9, tree, "a loop whose end is not seen");
            return super.visitWhileLoop(tree, unused);
        }

        @Override
        public Void visitEnhancedForLoop(EnhancedForLoopTree tree, Void unused) {
            loops++;
            check(type(tree.getExpression()).getKind() == TypeKind.ARRAY, 10, tree, "a loop over no array");
            return super.visitEnhancedForLoop(tree, unused);
        }

        @Override
        public Void visitBinary(BinaryTree tree, Void unused) {
            boolean isText = isText(tree.getLeftOperand()) || isText(tree.getRightOperand());
            check(!isText, 10, tree, "a text joined or compared: " + tree);
            if (tree.getKind() == Tree.Kind.DIVIDE) {
                check(type(tree).getKind() == TypeKind.DOUBLE, 7, tree, "divides whole numbers: " + tree);
            }
            return super.visitBinary(tree, unused);
        }

        private boolean isText(ExpressionTree tree) {
            return String.valueOf(type(tree)).equals("java.lang.String");
        }

        @Override
        public Void visitTypeCast(TypeCastTree tree, Void unused) {
            check(type(tree).getKind().isPrimitive(), 6, tree, "casts to " + type(tree));
            return super.visitTypeCast(tree, unused);
        }

        @Override
        public Void visitSwitch(SwitchTree tree, Void unused) {
            for (CaseTree one : tree.getCases()) {
                check(one.getCaseKind() == CaseTree.CaseKind.STATEMENT, 10, one, "a switch with arrows");
            }
            return super.visitSwitch(tree, unused);
        }

        @Override
        public Void visitLiteral(LiteralTree tree, Void unused) {
            if (tree.getValue() instanceof String text) {
                check(text.chars().allMatch(sign -> sign >= 1 && sign <= 127), 4, tree, "signs of a text");
            }
            return super.visitLiteral(tree, unused);
        }
    }
}
