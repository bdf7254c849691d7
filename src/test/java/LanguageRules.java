import com.sun.source.tree.AssertTree;
import com.sun.source.tree.AssignmentTree;
import com.sun.source.tree.BinaryTree;
import com.sun.source.tree.BlockTree;
import com.sun.source.tree.ClassTree;
import com.sun.source.tree.CompilationUnitTree;
import com.sun.source.tree.CompoundAssignmentTree;
import com.sun.source.tree.DoWhileLoopTree;
import com.sun.source.tree.ExpressionTree;
import com.sun.source.tree.ForLoopTree;
import com.sun.source.tree.IdentifierTree;
import com.sun.source.tree.InstanceOfTree;
import com.sun.source.tree.LambdaExpressionTree;
import com.sun.source.tree.LiteralTree;
import com.sun.source.tree.MemberReferenceTree;
import com.sun.source.tree.MemberSelectTree;
import com.sun.source.tree.MethodInvocationTree;
import com.sun.source.tree.MethodTree;
import com.sun.source.tree.NewArrayTree;
import com.sun.source.tree.NewClassTree;
import com.sun.source.tree.SynchronizedTree;
import com.sun.source.tree.ThrowTree;
import com.sun.source.tree.Tree;
import com.sun.source.tree.TryTree;
import com.sun.source.tree.TypeCastTree;
import com.sun.source.tree.UnaryTree;
import com.sun.source.tree.VariableTree;
import com.sun.source.tree.WhileLoopTree;
import com.sun.source.util.JavacTask;
import com.sun.source.util.TreePath;
import com.sun.source.util.TreePathScanner;
import com.sun.source.util.TreeScanner;
import com.sun.source.util.Trees;
import java.io.IOException;
import java.net.URI;
import java.util.ArrayList;
import java.util.HashMap;
import java.util.HashSet;
import java.util.LinkedHashMap;
import java.util.List;
import java.util.Map;
import java.util.Set;
import javax.lang.model.element.Element;
import javax.lang.model.element.ElementKind;
import javax.lang.model.element.ExecutableElement;
import javax.lang.model.element.Modifier;
import javax.lang.model.element.TypeElement;
import javax.lang.model.type.ArrayType;
import javax.lang.model.type.DeclaredType;
import javax.lang.model.type.TypeKind;
import javax.lang.model.type.TypeMirror;
import javax.tools.Diagnostic;
import javax.tools.DiagnosticCollector;
import javax.tools.JavaCompiler;
import javax.tools.JavaFileObject;
import javax.tools.SimpleJavaFileObject;
import javax.tools.ToolProvider;

/**
 * What a source does against LANGUAGE.md, rule by rule, as javac itself reads it. Where a rule
 * leaves more than BondStores needs (doubles, casts of own classes, recursion with a guard), this
 * asks for less than the rule: then it is to be widened together with the class.
 */
final class LanguageRules extends TreePathScanner<Void, Void> {
    private static final int MOST_PARAMETERS = 7;
    private static final int MOST_LINES = 60;
    private static final int MOST_DEEP = 8;
    private static final int MOST_CLASSES = 12;
    private static final int MOST_FIELDS = 20;
    private static final Set<String> CALLED = Set.of(
        "java.lang.String.length", "java.lang.String.charAt", "java.lang.String.isEmpty",
        "java.lang.String.equals", "java.lang.String.indexOf", "java.lang.String.substring",
        "java.lang.String.toCharArray",
        "java.lang.StringBuilder.append", "java.lang.StringBuilder.charAt",
        "java.lang.StringBuilder.setCharAt", "java.lang.StringBuilder.setLength",
        "java.lang.StringBuilder.deleteCharAt", "java.lang.StringBuilder.reverse",
        "java.lang.StringBuilder.length", "java.lang.StringBuilder.toString",
        "java.lang.Integer.compare", "java.lang.Integer.max", "java.lang.Integer.min",
        "java.lang.Integer.bitCount", "java.lang.Long.compare", "java.lang.Long.max",
        "java.lang.Long.min", "java.lang.Long.bitCount", "java.lang.Math.max", "java.lang.Math.min",
        "java.lang.Math.abs", "java.lang.Math.floorDiv", "java.lang.Math.floorMod",
        "java.lang.System.arraycopy", "java.util.Arrays.copyOf", "java.util.Arrays.copyOfRange",
        "java.util.Arrays.fill");
    private static final Set<String> LIBRARY_TYPES = Set.of(
        "java.lang.String", "java.lang.StringBuilder", "java.lang.Integer", "java.util.ArrayList",
        "java.util.List");
    private static final Set<String> OBJECTS_OWN = Set.of("equals", "hashCode", "toString", "finalize", "clone");

    private final Trees trees;
    private final CompilationUnitTree unit;
    private final List<String> faults = new ArrayList<>();
    private final Map<ExecutableElement, Set<ExecutableElement>> calls = new LinkedHashMap<>();
    private ExecutableElement method;
    private int loops;
    private int classes;

    private LanguageRules(Trees trees, CompilationUnitTree unit) {
        this.trees = trees;
        this.unit = unit;
    }

    /** The faults of a source, each with the number of its rule ahead; none if it keeps to them. */
    static List<String> faultsOf(String name, String source) throws IOException {
        JavaCompiler compiler = ToolProvider.getSystemJavaCompiler();
        DiagnosticCollector<JavaFileObject> told = new DiagnosticCollector<>();
        JavaFileObject file = new SimpleJavaFileObject(URI.create("string:///" + name + ".java"),
            JavaFileObject.Kind.SOURCE) {
            @Override
            public CharSequence getCharContent(boolean ignored) {
                return source;
            }
        };
        JavacTask task = (JavacTask) compiler.getTask(null, null, told, List.of("--release", "17", "-proc:none"),
            null, List.of(file));
        CompilationUnitTree unit = task.parse().iterator().next();
        task.analyze();
        for (Diagnostic<?> d : told.getDiagnostics()) {
            if (d.getKind() == Diagnostic.Kind.ERROR) {
                throw new IOException(name + " does not compile: " + d);
            }
        }
        LanguageRules rules = new LanguageRules(Trees.instance(task), unit);
        rules.fileAsAWhole();
        rules.scan(unit, null);
        rules.callsAsAWhole();
        return rules.faults;
    }

    private void fault(int rule, String what, Tree where) {
        long line = where == null ? 0
            : unit.getLineMap().getLineNumber(trees.getSourcePositions().getStartPosition(unit, where));
        faults.add(rule + ": " + what + ", line " + line);
    }

    private Element elementOf(Tree tree) {
        return trees.getElement(new TreePath(getCurrentPath(), tree));
    }

    private Element elementHere() {
        return trees.getElement(getCurrentPath());
    }

    private TypeMirror typeOf(Tree tree) {
        return trees.getTypeMirror(new TreePath(getCurrentPath(), tree));
    }

    /** Rule 1, as far as the file is looked at; its members are looked at where they stand. */
    private void fileAsAWhole() {
        if (unit.getPackage() != null) {
            fault(1, "a package line", unit.getPackage());
        }
        if (unit.getTypeDecls().size() != 1) {
            fault(1, "another class beside the public one", unit);
        }
        if (unit.getTypeDecls().get(0) instanceof ClassTree top
                && !top.getModifiers().getFlags().equals(Set.of(Modifier.PUBLIC, Modifier.FINAL))) {
            fault(1, "the class is not public and final", top);
        }
        unit.getImports().forEach(i -> {
            if (!i.toString().matches("import java\\.util\\.(ArrayList|List|Iterator|Arrays);\\s*")) {
                fault(4, "imported", i);
            }
        });
    }

    /** Rules 1, 8 and 11 ask for all methods at once. */
    private void callsAsAWhole() {
        Set<String> publicNames = new HashSet<>();
        for (ExecutableElement m : calls.keySet()) {
            if (isOfTheFace(m)) {
                publicNames.add(m.getSimpleName().toString());
            }
        }
        Map<ExecutableElement, Integer> deep = new HashMap<>();
        for (ExecutableElement m : calls.keySet()) {
            if (!isOfTheFace(m) && publicNames.contains(m.getSimpleName().toString())) {
                fault(1, m + " bears the name of a public method", null);
            }
            int levels = levelsOf(m, deep, new HashSet<>());
            if (levels > MOST_DEEP) {
                fault(11, m + " goes " + levels + " calls deep", null);
            }
        }
        if (classes > MOST_CLASSES) {
            fault(11, classes + " classes", null);
        }
    }

    private static boolean isOfTheFace(ExecutableElement m) {
        return m.getKind() == ElementKind.METHOD && m.getModifiers().contains(Modifier.PUBLIC)
            && m.getEnclosingElement().getEnclosingElement().getKind() == ElementKind.PACKAGE;
    }

    /** How many methods of the file's own stand open at once below and with this one. */
    private int levelsOf(ExecutableElement m, Map<ExecutableElement, Integer> known, Set<ExecutableElement> open) {
        if (known.containsKey(m)) {
            return known.get(m);
        }
        if (!open.add(m)) {
            fault(8, m + " calls itself", null);
            return 0;
        }
        int below = 0;
        for (ExecutableElement called : calls.getOrDefault(m, Set.of())) {
            below = Math.max(below, levelsOf(called, known, open));
        }
        open.remove(m);
        known.put(m, below + 1);
        return below + 1;
    }

    @Override
    public Void visitClass(ClassTree tree, Void p) {
        classes++;
        Element type = elementHere();
        boolean isTop = getCurrentPath().getParentPath().getLeaf() == unit;
        if (!isTop && !(getCurrentPath().getParentPath().getLeaf() instanceof ClassTree)) {
            fault(2, "a local or anonymous class", tree);
        } else if (!isTop && !type.getModifiers().contains(Modifier.STATIC)) {
            fault(2, "an inner class that is not static", tree);
        }
        if (!isTop && (isPublic(type) || type.getModifiers().contains(Modifier.PROTECTED))) {
            fault(1, "a class inside that is public or protected", tree);
        }
        int fields = 0;
        for (Tree member : tree.getMembers()) {
            Element e = elementOf(member);
            if (isTop && e != null) {
                memberOfTheTop(e, member);
            }
            if (member instanceof VariableTree && !e.getModifiers().contains(Modifier.STATIC)) {
                fields++;
            }
            if (member instanceof BlockTree block && block.isStatic()) {
                fault(5, "a static initialiser block", member);
            }
        }
        if (fields > MOST_FIELDS) {
            fault(11, fields + " fields", tree);
        }
        return super.visitClass(tree, p);
    }

    private static boolean isPublic(Element e) {
        return e.getModifiers().contains(Modifier.PUBLIC);
    }

    private void memberOfTheTop(Element e, Tree member) {
        Set<Modifier> flags = e.getModifiers();
        if (!isPublic(e) && !flags.contains(Modifier.PRIVATE) && !(member instanceof ClassTree)) {
            fault(1, e + " is neither public nor private", member);
        }
        if (isPublic(e) && e.getKind() == ElementKind.FIELD
                && !flags.equals(Set.of(Modifier.PUBLIC, Modifier.STATIC, Modifier.FINAL))) {
            fault(1, e + " is public and no constant", member);
        }
    }

    @Override
    public Void visitMethod(MethodTree tree, Void p) {
        ExecutableElement outer = method;
        method = (ExecutableElement) elementHere();
        calls.putIfAbsent(method, new HashSet<>());
        if (tree.getParameters().size() > MOST_PARAMETERS) {
            fault(11, tree.getName() + " takes " + tree.getParameters().size(), tree);
        }
        long first = unit.getLineMap().getLineNumber(trees.getSourcePositions().getStartPosition(unit, tree));
        long last = unit.getLineMap().getLineNumber(trees.getSourcePositions().getEndPosition(unit, tree));
        if (last - first + 1 > MOST_LINES) {
            fault(11, tree.getName() + " has " + (last - first + 1) + " lines", tree);
        }
        if (OBJECTS_OWN.contains(tree.getName().toString())) {
            fault(6, tree.getName() + " is told anew", tree);
        }
        if (!tree.getThrows().isEmpty() || method.getModifiers().contains(Modifier.SYNCHRONIZED)) {
            fault(6, tree.getName() + " throws or is synchronized", tree);
        }
        checkType(method.getReturnType(), tree);
        super.visitMethod(tree, p);
        method = outer;
        return null;
    }

    @Override
    public Void visitVariable(VariableTree tree, Void p) {
        Element e = elementHere();
        checkType(e.asType(), tree);
        boolean isField = e.getKind() == ElementKind.FIELD;
        if (isField && e.getModifiers().contains(Modifier.STATIC)) {
            String type = e.asType().toString();
            if (!e.getModifiers().contains(Modifier.FINAL)
                    || !type.matches("int|long|boolean|char|java\\.lang\\.String|(int|long|char|byte)\\[\\]")
                    || type.endsWith("[]") && !isWrittenOut(tree)) {
                fault(5, "static state " + e, tree);
            }
        }
        return super.visitVariable(tree, p);
    }

    private static boolean isWrittenOut(VariableTree tree) {
        return tree.getInitializer() instanceof NewArrayTree row && row.getInitializers() != null;
    }

    private void checkType(TypeMirror type, Tree where) {
        int dimensions = 0;
        TypeMirror of = type;
        while (of.getKind() == TypeKind.ARRAY) {
            of = ((ArrayType) of).getComponentType();
            dimensions++;
        }
        boolean isNumber = of.getKind().isPrimitive();
        boolean isKnown = isNumber || of.getKind() == TypeKind.VOID || isOwnType(of)
            || LIBRARY_TYPES.contains(erased(of)) && dimensions == 0;
        if (!isKnown || dimensions > (isNumber ? 2 : 1)) {
            fault(3, "type " + type, where);
        }
        if (of.getKind() == TypeKind.DOUBLE || of.getKind() == TypeKind.FLOAT) {
            fault(3, "type " + type + " (no sum of them is needed)", where);
        }
    }

    private static String erased(TypeMirror type) {
        return type.toString().replaceAll("<.*", "");
    }

    private boolean isOwnType(TypeMirror type) {
        return type instanceof DeclaredType declared && isOwn(declared.asElement());
    }

    /** All that stands in the one file. */
    private boolean isOwn(Element e) {
        Element top = e;
        while (top.getEnclosingElement() != null && top.getEnclosingElement().getKind() != ElementKind.PACKAGE) {
            top = top.getEnclosingElement();
        }
        return trees.getPath(top) != null && trees.getPath(top).getCompilationUnit() == unit;
    }

    @Override
    public Void visitMethodInvocation(MethodInvocationTree tree, Void p) {
        ExecutableElement called = (ExecutableElement) elementHere();
        if (isOwn(called)) {
            if (method != null) {
                calls.get(method).add(called);
                inConstructor(called, tree);
            }
        } else if (!isSuper(tree)) {
            String name = erased(called.getEnclosingElement().asType()) + "." + called.getSimpleName();
            if (!CALLED.contains(name)) {
                fault(4, "calls " + name, tree);
            }
        }
        return super.visitMethodInvocation(tree, p);
    }

    private static boolean isSuper(MethodInvocationTree tree) {
        return tree.getMethodSelect() instanceof IdentifierTree name && name.getName().contentEquals("super");
    }

    private void inConstructor(ExecutableElement called, Tree where) {
        Set<Modifier> flags = called.getModifiers();
        boolean isFixed = flags.contains(Modifier.PRIVATE) || flags.contains(Modifier.STATIC)
            || called.getEnclosingElement().getModifiers().contains(Modifier.FINAL);
        if (method.getKind() == ElementKind.CONSTRUCTOR && called.getKind() == ElementKind.METHOD && !isFixed) {
            fault(12, "a constructor calls " + called, where);
        }
    }

    @Override
    public Void visitNewClass(NewClassTree tree, Void p) {
        Element made = elementHere();
        TypeElement type = (TypeElement) made.getEnclosingElement();
        if (isOwn(type)) {
            if (method != null) {
                calls.get(method).add((ExecutableElement) made);
            }
        } else if (!LIBRARY_TYPES.contains(erased(type.asType()))) {
            fault(4, "makes a " + type, tree);
        }
        madeInALoop(tree);
        return super.visitNewClass(tree, p);
    }

    @Override
    public Void visitNewArray(NewArrayTree tree, Void p) {
        madeInALoop(tree);
        return super.visitNewArray(tree, p);
    }

    /** Rows are made in constructors, and used again. */
    private void madeInALoop(Tree tree) {
        if (loops > 0 && (method == null || method.getKind() != ElementKind.CONSTRUCTOR)) {
            fault(12, "made in a loop of no constructor", tree);
        }
    }

    @Override
    public Void visitMemberSelect(MemberSelectTree tree, Void p) {
        Element e = elementHere();
        if (e != null && e.getKind() == ElementKind.FIELD && !isOwn(e)
                && typeOf(tree.getExpression()).getKind() != TypeKind.ARRAY) {
            fault(4, "reads " + tree, tree);
        }
        return super.visitMemberSelect(tree, p);
    }

    @Override
    public Void visitIdentifier(IdentifierTree tree, Void p) {
        boolean isThis = tree.getName().contentEquals("this");
        Tree around = getCurrentPath().getParentPath().getLeaf();
        if (isThis && method != null && method.getKind() == ElementKind.CONSTRUCTOR
                && !(around instanceof MemberSelectTree) && !(around instanceof MethodInvocationTree call
                && call.getMethodSelect() == tree)) {
            fault(12, "a constructor hands out its object", tree);
        }
        return super.visitIdentifier(tree, p);
    }

    @Override
    public Void visitLiteral(LiteralTree tree, Void p) {
        if (tree.getValue() instanceof String text && !text.chars().allMatch(c -> c >= 1 && c <= 127)) {
            fault(4, "a sign beyond 127 in a text", tree);
        }
        return super.visitLiteral(tree, p);
    }

    @Override
    public Void visitBinary(BinaryTree tree, Void p) {
        String left = String.valueOf(typeOf(tree.getLeftOperand()));
        String right = String.valueOf(typeOf(tree.getRightOperand()));
        boolean areTexts = left.equals("java.lang.String") && right.equals("java.lang.String");
        boolean areBoxed = left.equals("java.lang.Integer") && right.equals("java.lang.Integer");
        boolean isSame = tree.getKind() == Tree.Kind.EQUAL_TO || tree.getKind() == Tree.Kind.NOT_EQUAL_TO;
        if (isSame && (areTexts || areBoxed)) {
            fault(6, "two texts or Integers held against each other by ==", tree);
        }
        if (tree.getKind() == Tree.Kind.PLUS && (left + right).contains("java.lang.String")) {
            fault(10, "texts joined by +", tree);
        }
        return super.visitBinary(tree, p);
    }

    @Override
    public Void visitTypeCast(TypeCastTree tree, Void p) {
        if (!typeOf(tree.getType()).getKind().isPrimitive()) {
            fault(6, "a cast that is none of numbers", tree);
        }
        return super.visitTypeCast(tree, p);
    }

    @Override
    public Void visitInstanceOf(InstanceOfTree tree, Void p) {
        if (!isOwnType(typeOf(tree.getType() == null ? tree.getPattern() : tree.getType()))) {
            fault(6, "instanceof of a class that is not own", tree);
        }
        return super.visitInstanceOf(tree, p);
    }

    @Override
    public Void visitLambdaExpression(LambdaExpressionTree tree, Void p) {
        fault(2, "a lambda", tree);
        return super.visitLambdaExpression(tree, p);
    }

    @Override
    public Void visitMemberReference(MemberReferenceTree tree, Void p) {
        fault(2, "a method reference", tree);
        return super.visitMemberReference(tree, p);
    }

    @Override
    public Void visitThrow(ThrowTree tree, Void p) {
        fault(6, "throw", tree);
        return super.visitThrow(tree, p);
    }

    @Override
    public Void visitTry(TryTree tree, Void p) {
        fault(6, "try", tree);
        return super.visitTry(tree, p);
    }

    @Override
    public Void visitSynchronized(SynchronizedTree tree, Void p) {
        fault(6, "synchronized", tree);
        return super.visitSynchronized(tree, p);
    }

    @Override
    public Void visitAssert(AssertTree tree, Void p) {
        fault(6, "assert", tree);
        return super.visitAssert(tree, p);
    }

    @Override
    public Void visitForLoop(ForLoopTree tree, Void p) {
        hasAnEnd(tree, tree.getCondition());
        loops++;
        super.visitForLoop(tree, p);
        loops--;
        return null;
    }

    @Override
    public Void visitWhileLoop(WhileLoopTree tree, Void p) {
        hasAnEnd(tree, tree.getCondition());
        loops++;
        super.visitWhileLoop(tree, p);
        loops--;
        return null;
    }

    @Override
    public Void visitDoWhileLoop(DoWhileLoopTree tree, Void p) {
        hasAnEnd(tree, tree.getCondition());
        loops++;
        super.visitDoWhileLoop(tree, p);
        loops--;
        return null;
    }

    /** Its condition holds a counter against a bound, and its lines move the counter. */
    private void hasAnEnd(Tree loop, ExpressionTree condition) {
        Set<String> counters = new HashSet<>();
        if (condition != null) {
            gatherCounters(condition, counters);
        }
        Set<String> moved = new HashSet<>();
        new TreeScanner<Void, Void>() {
            @Override
            public Void visitUnary(UnaryTree tree, Void p) {
                String kind = tree.getKind().toString();
                if (kind.contains("INCREMENT") || kind.contains("DECREMENT")) {
                    moved.add(tree.getExpression().toString());
                }
                return super.visitUnary(tree, p);
            }

            @Override
            public Void visitAssignment(AssignmentTree tree, Void p) {
                moved.add(tree.getVariable().toString());
                return super.visitAssignment(tree, p);
            }

            @Override
            public Void visitCompoundAssignment(CompoundAssignmentTree tree, Void p) {
                moved.add(tree.getVariable().toString());
                return super.visitCompoundAssignment(tree, p);
            }
        }.scan(loop, null);
        counters.retainAll(moved);
        if (counters.isEmpty()) {
            fault(9, "a loop whose end can't be seen", loop);
        }
    }

    /** What stands to the left of a comparison, which all of the condition needs. */
    private static void gatherCounters(ExpressionTree condition, Set<String> counters) {
        ExpressionTree bare = condition;
        while (bare instanceof com.sun.source.tree.ParenthesizedTree inside) {
            bare = inside.getExpression();
        }
        if (bare instanceof BinaryTree both) {
            switch (both.getKind()) {
                case CONDITIONAL_AND:
                    gatherCounters(both.getLeftOperand(), counters);
                    gatherCounters(both.getRightOperand(), counters);
                    break;
                case LESS_THAN: case LESS_THAN_EQUAL: case GREATER_THAN: case GREATER_THAN_EQUAL:
                    counters.add(both.getLeftOperand().toString());
                    break;
                default:
                    break;
            }
        }
    }
}
