import com.sun.source.tree.*;
import com.sun.source.util.JavacTask;
import com.sun.source.util.TreePathScanner;
import com.sun.source.util.Trees;
import java.io.IOException;
import java.net.URI;
import java.util.ArrayList;
import java.util.HashMap;
import java.util.HashSet;
import java.util.List;
import java.util.Map;
import java.util.Set;
import java.util.TreeMap;
import java.util.TreeSet;
import javax.lang.model.element.Element;
import javax.lang.model.element.ElementKind;
import javax.lang.model.element.ExecutableElement;
import javax.lang.model.element.Modifier;
import javax.lang.model.element.TypeElement;
import javax.lang.model.type.ArrayType;
import javax.lang.model.type.DeclaredType;
import javax.lang.model.type.TypeKind;
import javax.lang.model.type.TypeMirror;
import javax.tools.JavaFileObject;
import javax.tools.SimpleJavaFileObject;
import javax.tools.ToolProvider;

/**
 * A look at a source by the compiler's own trees: what of ../shared/LANGUAGE.md does not hold in it, each fault with its
 * rule's number. It is narrower than the rules where the class needs less (no lists, no texts, no doubles).
 */
final class Look extends TreePathScanner<Void, Void> {
    private static final int MOST_PARAMETERS = 7, MOST_LINES = 60, MOST_DEPTH = 8, MOST_CLASSES = 12, MOST_FIELDS = 20;
    private static final Set<String> LIBRARY = Set.of("java.lang.Math.min", "java.lang.Math.max", "java.lang.Math.abs",
            "java.lang.Integer.bitCount", "java.lang.Integer.compare", "java.lang.Long.bitCount", "java.lang.Long.compare",
            "java.lang.System.arraycopy", "java.util.Arrays.fill", "java.util.Arrays.copyOf", "java.util.Arrays.copyOfRange",
            "Array.clone", "java.lang.Object.<init>");
    private static final Set<TypeKind> PLAIN = Set.of(TypeKind.INT, TypeKind.LONG, TypeKind.SHORT, TypeKind.BYTE, TypeKind.CHAR,
            TypeKind.BOOLEAN);
    private static final Set<String> COMPARISONS = Set.of("LESS_THAN", "LESS_THAN_EQUAL", "GREATER_THAN", "GREATER_THAN_EQUAL");

    private final Trees trees;
    private final CompilationUnitTree unit;
    private final List<String> faults = new ArrayList<>();
    private final Set<String> ownClasses = new HashSet<>();
    /** Who calls whom, by Class.method; constructors and what fields begin with by Class.<init>. */
    private final Map<String, Set<String>> calls = new TreeMap<>();
    private final Map<String, Set<String>> overriders = new HashMap<>();
    private final Set<String> publicNames = new HashSet<>();
    private final Map<String, Integer> depths = new HashMap<>();
    private String caller = "";
    private int deepest = 0;

    private Look(Trees trees, CompilationUnitTree unit) {
        this.trees = trees;
        this.unit = unit;
    }

    /** Looks at a source that must compile. */
    static Look at(String name, String source) throws IOException {
        JavaFileObject file = new SimpleJavaFileObject(URI.create("string:///" + name + ".java"), JavaFileObject.Kind.SOURCE) {
            @Override
            public CharSequence getCharContent(boolean ignoreEncodingErrors) {
                return source;
            }
        };
        List<String> unlike = new ArrayList<>();
        JavacTask task = (JavacTask) ToolProvider.getSystemJavaCompiler().getTask(null, null,
                d -> unlike.add(d.toString()), List.of("-proc:none"), null, List.of(file));
        CompilationUnitTree unit = task.parse().iterator().next();
        task.analyze();
        Look look = new Look(Trees.instance(task), unit);
        unlike.forEach(u -> look.faults.add("the compiler: " + u));
        if (unlike.isEmpty()) {
            new Names(look).scan(unit, null);
            look.scan(unit, null);
            look.lookAtCalls();
            look.lookAtSigns(source);
        }
        return look;
    }

    List<String> faults() {
        return faults;
    }

    /** How many calls stand open at most, the public one too. */
    int deepest() {
        return deepest;
    }

    int classes() {
        return ownClasses.size();
    }

    private void fault(int rule, Tree tree, String what) {
        long at = trees.getSourcePositions().getStartPosition(unit, tree);
        long line = at < 0 ? 0 : unit.getLineMap().getLineNumber(at);
        faults.add("rule " + rule + ", line " + line + ": " + what);
    }

    private Element elementOf(Tree tree) {
        return trees.getElement(trees.getPath(unit, tree));
    }

    private TypeMirror typeOf(Tree tree) {
        return trees.getTypeMirror(trees.getPath(unit, tree));
    }

    private static String keyOf(Element method) {
        return method.getEnclosingElement().getSimpleName() + "." + method.getSimpleName();
    }

    /** The names that have to be known before the look: the own classes, the public methods, who overrides whom. */
    private static final class Names extends TreePathScanner<Void, Void> {
        private final Look look;

        Names(Look look) {
            this.look = look;
        }

        @Override
        public Void visitClass(ClassTree tree, Void nothing) {
            TypeElement own = (TypeElement) look.trees.getElement(getCurrentPath());
            look.ownClasses.add(own.getQualifiedName().toString());
            return super.visitClass(tree, nothing);
        }

        @Override
        public Void visitMethod(MethodTree tree, Void nothing) {
            Element own = look.trees.getElement(getCurrentPath());
            TypeElement above = (TypeElement) own.getEnclosingElement();
            if (own.getModifiers().contains(Modifier.PUBLIC) && own.getKind() == ElementKind.METHOD) {
                look.publicNames.add(own.getSimpleName().toString());
            }
            List<TypeMirror> parents = new ArrayList<>(above.getInterfaces());
            parents.add(above.getSuperclass());
            for (TypeMirror parent : parents) {
                if (own.getKind() != ElementKind.METHOD || !(parent instanceof DeclaredType)) continue;
                String theirs = ((DeclaredType) parent).asElement().getSimpleName() + "." + own.getSimpleName();
                look.overriders.computeIfAbsent(theirs, k -> new TreeSet<>()).add(keyOf(own));
            }
            return super.visitMethod(tree, nothing);
        }
    }

    // ---- classes and what stands in them

    @Override
    public Void visitCompilationUnit(CompilationUnitTree tree, Void nothing) {
        if (tree.getPackage() != null) fault(1, tree.getPackage(), "a package line");
        if (tree.getTypeDecls().size() != 1) fault(1, tree, "not just one class in the file");
        for (ImportTree one : tree.getImports()) {
            if (!one.getQualifiedIdentifier().toString().equals("java.util.Arrays")) fault(4, one, "import " + one.getQualifiedIdentifier());
        }
        return super.visitCompilationUnit(tree, nothing);
    }

    @Override
    public Void visitClass(ClassTree tree, Void nothing) {
        Element own = trees.getElement(getCurrentPath());
        boolean outer = own.getEnclosingElement().getKind() == ElementKind.PACKAGE;
        Set<Modifier> how = own.getModifiers();
        if (outer && !how.containsAll(Set.of(Modifier.PUBLIC, Modifier.FINAL))) fault(1, tree, "the class is not public and final");
        if (!outer && (!how.contains(Modifier.STATIC) || how.contains(Modifier.PUBLIC) || how.contains(Modifier.PROTECTED))) {
            fault(2, tree, "a class inside that is not static and hidden");
        }
        int fields = 0;
        for (Tree member : tree.getMembers()) {
            if (member instanceof VariableTree && !elementOf(member).getModifiers().contains(Modifier.STATIC)) fields++;
            if (member instanceof BlockTree) fault(5, member, "a block beside methods");
        }
        if (fields > MOST_FIELDS) fault(11, tree, fields + " fields");
        if (outer && ownClasses.size() > MOST_CLASSES) fault(11, tree, ownClasses.size() + " classes");
        String before = caller;
        caller = own.getSimpleName() + ".<init>";
        super.visitClass(tree, nothing);
        caller = before;
        return null;
    }

    @Override
    public Void visitMethod(MethodTree tree, Void nothing) {
        ExecutableElement own = (ExecutableElement) trees.getElement(getCurrentPath());
        boolean outer = own.getEnclosingElement().getEnclosingElement().getKind() == ElementKind.PACKAGE;
        Set<Modifier> how = own.getModifiers();
        if (outer && !how.contains(Modifier.PRIVATE) && !how.contains(Modifier.PUBLIC)) fault(1, tree, "neither public nor private: " + tree.getName());
        if (!how.contains(Modifier.PUBLIC) && publicNames.contains(tree.getName().toString())) fault(1, tree, "a public one's name: " + tree.getName());
        if (tree.getParameters().size() > MOST_PARAMETERS) fault(11, tree, tree.getParameters().size() + " parameters");
        long start = trees.getSourcePositions().getStartPosition(unit, tree);
        long end = trees.getSourcePositions().getEndPosition(unit, tree);
        if (start >= 0 && end > start) {
            long lines = unit.getLineMap().getLineNumber(end) - unit.getLineMap().getLineNumber(start) + 1;
            if (lines > MOST_LINES) fault(11, tree, lines + " lines");
        }
        if (!tree.getThrows().isEmpty()) fault(6, tree, "throws");
        if (how.contains(Modifier.SYNCHRONIZED) || how.contains(Modifier.NATIVE)) fault(6, tree, how.toString());
        String before = caller;
        caller = keyOf(own);
        calls.computeIfAbsent(caller, k -> new TreeSet<>());
        super.visitMethod(tree, nothing);
        caller = before;
        return null;
    }

    @Override
    public Void visitVariable(VariableTree tree, Void nothing) {
        Element own = trees.getElement(getCurrentPath());
        lookAtType(tree, own.asType());
        if (own.getKind() == ElementKind.FIELD) lookAtField(tree, own);
        return super.visitVariable(tree, nothing);
    }

    private void lookAtField(VariableTree tree, Element own) {
        Set<Modifier> how = own.getModifiers();
        boolean outer = own.getEnclosingElement().getEnclosingElement().getKind() == ElementKind.PACKAGE;
        boolean constant = how.containsAll(Set.of(Modifier.STATIC, Modifier.FINAL));
        if (how.contains(Modifier.VOLATILE) || how.contains(Modifier.TRANSIENT)) fault(13, tree, how.toString());
        if (outer && !how.contains(Modifier.PRIVATE) && !(constant && how.contains(Modifier.PUBLIC))) fault(1, tree, "a field that is not private: " + tree.getName());
        if (!how.contains(Modifier.STATIC)) return;
        if (!constant) fault(5, tree, "a static field that is not final: " + tree.getName());
        ExpressionTree first = tree.getInitializer();
        boolean writtenOut = first instanceof NewArrayTree && ((NewArrayTree) first).getInitializers() != null;
        boolean plain = PLAIN.contains(own.asType().getKind());
        if (!plain && !writtenOut) fault(5, tree, "a static field that is no constant: " + tree.getName());
    }

    private void lookAtType(Tree tree, TypeMirror type) {
        TypeMirror of = type;
        int rows = 0;
        while (of instanceof ArrayType && rows < 10) {
            of = ((ArrayType) of).getComponentType();
            rows++;
        }
        boolean own = of instanceof DeclaredType && ownClasses.contains(of.toString());
        if (!PLAIN.contains(of.getKind()) && !own) fault(3, tree, "the type " + type);
        if (rows > 2 || rows == 2 && own) fault(3, tree, "the type " + type);
    }

    // ---- what is refused

    private Void refuse(int rule, Tree tree) {
        fault(rule, tree, tree.getKind().toString());
        return null;
    }

    @Override
    public Void visitLambdaExpression(LambdaExpressionTree tree, Void nothing) {
        return refuse(2, tree);
    }

    @Override
    public Void visitMemberReference(MemberReferenceTree tree, Void nothing) {
        return refuse(2, tree);
    }

    @Override
    public Void visitAnnotation(AnnotationTree tree, Void nothing) {
        return refuse(4, tree);
    }

    @Override
    public Void visitThrow(ThrowTree tree, Void nothing) {
        return refuse(6, tree);
    }

    @Override
    public Void visitTry(TryTree tree, Void nothing) {
        return refuse(6, tree);
    }

    @Override
    public Void visitSynchronized(SynchronizedTree tree, Void nothing) {
        return refuse(6, tree);
    }

    @Override
    public Void visitAssert(AssertTree tree, Void nothing) {
        return refuse(6, tree);
    }

    @Override
    public Void visitInstanceOf(InstanceOfTree tree, Void nothing) {
        return refuse(6, tree);
    }

    @Override
    public Void visitTypeCast(TypeCastTree tree, Void nothing) {
        if (!PLAIN.contains(typeOf(tree.getType()).getKind())) fault(6, tree, "a cast to " + tree.getType());
        return super.visitTypeCast(tree, nothing);
    }

    @Override
    public Void visitLiteral(LiteralTree tree, Void nothing) {
        Object value = tree.getValue();
        if (value instanceof String || value instanceof Double || value instanceof Float) fault(3, tree, "" + value);
        return super.visitLiteral(tree, nothing);
    }

    // ---- numbers and rows

    @Override
    public Void visitBinary(BinaryTree tree, Void nothing) {
        boolean divides = tree.getKind() == Tree.Kind.DIVIDE || tree.getKind() == Tree.Kind.REMAINDER;
        if (divides && !isTestedAhead(tree)) fault(7, tree, "a divisor that is not looked at: " + tree);
        return super.visitBinary(tree, nothing);
    }

    @Override
    public Void visitCompoundAssignment(CompoundAssignmentTree tree, Void nothing) {
        boolean divides = tree.getKind() == Tree.Kind.DIVIDE_ASSIGNMENT || tree.getKind() == Tree.Kind.REMAINDER_ASSIGNMENT;
        if (divides) fault(7, tree, "a divisor that is not looked at: " + tree);
        lookAtTarget(tree.getVariable());
        return super.visitCompoundAssignment(tree, nothing);
    }

    /** A divisor is a literal that is not 0, or a ?: around the division compares it with 0. */
    private boolean isTestedAhead(BinaryTree tree) {
        String divisor = tree.getRightOperand().toString();
        if (tree.getRightOperand() instanceof LiteralTree) return !divisor.equals("0");
        for (Tree above : getCurrentPath()) {
            if (above instanceof ConditionalExpressionTree
                    && ((ConditionalExpressionTree) above).getCondition().toString().contains(divisor + " == 0")) {
                return true;
            }
        }
        return false;
    }

    @Override
    public Void visitAssignment(AssignmentTree tree, Void nothing) {
        lookAtTarget(tree.getVariable());
        return super.visitAssignment(tree, nothing);
    }

    @Override
    public Void visitUnary(UnaryTree tree, Void nothing) {
        if (tree.getKind().toString().endsWith("CREMENT")) lookAtTarget(tree.getExpression());
        return super.visitUnary(tree, nothing);
    }

    /** Rows that are constants are never changed. */
    private void lookAtTarget(ExpressionTree target) {
        if (!(target instanceof ArrayAccessTree)) return;
        Element row = elementOf(((ArrayAccessTree) target).getExpression());
        if (row != null && row.getKind() == ElementKind.FIELD && row.getModifiers().contains(Modifier.STATIC)) {
            fault(5, target, "a constant row is changed: " + target);
        }
    }

    @Override
    public Void visitNewArray(NewArrayTree tree, Void nothing) {
        lookAtType(tree, typeOf(tree));
        for (ExpressionTree size : tree.getDimensions()) {
            if (!isConstant(size)) fault(7, tree, "a length that is no constant: " + size);
        }
        return super.visitNewArray(tree, nothing);
    }

    private boolean isConstant(ExpressionTree tree) {
        if (tree instanceof LiteralTree) return true;
        if (tree instanceof BinaryTree) return isConstant(((BinaryTree) tree).getLeftOperand()) && isConstant(((BinaryTree) tree).getRightOperand());
        Element e = elementOf(tree);
        return e != null && e.getModifiers().containsAll(Set.of(Modifier.STATIC, Modifier.FINAL));
    }

    // ---- loops

    @Override
    public Void visitForLoop(ForLoopTree tree, Void nothing) {
        boolean counts = tree.getCondition() != null && compares(tree.getCondition()) && !tree.getUpdate().isEmpty();
        if (!counts) fault(9, tree, "a loop without a counter against a bound");
        return super.visitForLoop(tree, nothing);
    }

    @Override
    public Void visitWhileLoop(WhileLoopTree tree, Void nothing) {
        if (!compares(tree.getCondition())) fault(9, tree, "a loop without a counter against a bound");
        return super.visitWhileLoop(tree, nothing);
    }

    @Override
    public Void visitDoWhileLoop(DoWhileLoopTree tree, Void nothing) {
        if (!compares(tree.getCondition())) fault(9, tree, "a loop without a counter against a bound");
        return super.visitDoWhileLoop(tree, nothing);
    }

    @Override
    public Void visitEnhancedForLoop(EnhancedForLoopTree tree, Void nothing) {
        if (!(typeOf(tree.getExpression()) instanceof ArrayType)) fault(9, tree, "a loop over what is no row");
        return super.visitEnhancedForLoop(tree, nothing);
    }

    /** Whether a part without which the condition does not hold compares two numbers. */
    private static boolean compares(ExpressionTree condition) {
        if (condition instanceof ParenthesizedTree) return compares(((ParenthesizedTree) condition).getExpression());
        if (!(condition instanceof BinaryTree)) return false;
        BinaryTree both = (BinaryTree) condition;
        if (both.getKind() == Tree.Kind.CONDITIONAL_AND) return compares(both.getLeftOperand()) || compares(both.getRightOperand());
        return COMPARISONS.contains(both.getKind().toString());
    }

    // ---- calls

    @Override
    public Void visitMethodInvocation(MethodInvocationTree tree, Void nothing) {
        Element method = elementOf(tree.getMethodSelect());
        boolean ofRow = tree.getMethodSelect() instanceof MemberSelectTree
                && typeOf(((MemberSelectTree) tree.getMethodSelect()).getExpression()) instanceof ArrayType;
        String owner = ofRow ? "Array" : method.getEnclosingElement().toString();
        if (ownClasses.contains(owner)) {
            calls.computeIfAbsent(caller, k -> new TreeSet<>()).add(keyOf(method));
        } else if (!LIBRARY.contains(owner + "." + method.getSimpleName())) {
            fault(4, tree, "a call of " + owner + "." + method.getSimpleName());
        }
        return super.visitMethodInvocation(tree, nothing);
    }

    @Override
    public Void visitNewClass(NewClassTree tree, Void nothing) {
        Element made = elementOf(tree);
        String owner = made == null ? "" : made.getEnclosingElement().toString();
        if (tree.getClassBody() != null) fault(2, tree, "a class without a name");
        if (ownClasses.contains(owner)) {
            calls.computeIfAbsent(caller, k -> new TreeSet<>()).add(keyOf(made));
        } else if (tree.getClassBody() == null) {
            fault(4, tree, "new " + tree.getIdentifier());
        }
        return super.visitNewClass(tree, nothing);
    }

    private void lookAtCalls() {
        for (String one : new ArrayList<>(calls.keySet())) deepest = Math.max(deepest, depthOf(one, new HashSet<>()));
        if (deepest > MOST_DEPTH) faults.add("rule 11: calls go " + deepest + " deep");
    }

    private int depthOf(String method, Set<String> open) {
        if (depths.containsKey(method)) return depths.get(method);
        if (!open.add(method)) {
            faults.add("rule 8: " + method + " calls itself");
            return 0;
        }
        Set<String> all = new TreeSet<>(calls.getOrDefault(method, Set.of()));
        int below = 0;
        for (String one : all) {
            below = Math.max(below, depthOf(one, open));
            for (String own : overriders.getOrDefault(one, Set.of())) below = Math.max(below, depthOf(own, open));
        }
        open.remove(method);
        depths.put(method, below + 1);
        return below + 1;
    }

    private void lookAtSigns(String source) {
        boolean plain = source.chars().allMatch(ch -> ch == '\n' || ch >= 32 && ch < 127);
        if (!plain) faults.add("rule 3: a sign that is not plain");
    }
}
