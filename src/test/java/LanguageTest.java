import com.sun.source.tree.AssertTree;
import com.sun.source.tree.BinaryTree;
import com.sun.source.tree.BlockTree;
import com.sun.source.tree.ClassTree;
import com.sun.source.tree.CompilationUnitTree;
import com.sun.source.tree.CompoundAssignmentTree;
import com.sun.source.tree.DoWhileLoopTree;
import com.sun.source.tree.ExpressionTree;
import com.sun.source.tree.ForLoopTree;
import com.sun.source.tree.ImportTree;
import com.sun.source.tree.InstanceOfTree;
import com.sun.source.tree.LambdaExpressionTree;
import com.sun.source.tree.LiteralTree;
import com.sun.source.tree.MemberReferenceTree;
import com.sun.source.tree.MethodInvocationTree;
import com.sun.source.tree.MethodTree;
import com.sun.source.tree.NewArrayTree;
import com.sun.source.tree.NewClassTree;
import com.sun.source.tree.SwitchExpressionTree;
import com.sun.source.tree.SynchronizedTree;
import com.sun.source.tree.ThrowTree;
import com.sun.source.tree.Tree;
import com.sun.source.tree.TryTree;
import com.sun.source.tree.TypeCastTree;
import com.sun.source.tree.VariableTree;
import com.sun.source.tree.WhileLoopTree;
import com.sun.source.util.JavacTask;
import com.sun.source.util.TreePath;
import com.sun.source.util.TreePathScanner;
import com.sun.source.util.Trees;
import java.nio.file.Files;
import java.nio.file.Path;
import java.util.ArrayList;
import java.util.LinkedHashMap;
import java.util.LinkedHashSet;
import java.util.List;
import java.util.Map;
import java.util.Set;
import java.util.TreeMap;
import java.util.TreeSet;
import javax.lang.model.element.Element;
import javax.lang.model.element.Modifier;
import javax.lang.model.element.VariableElement;
import javax.lang.model.type.TypeMirror;
import javax.tools.JavaCompiler;
import javax.tools.StandardJavaFileManager;
import javax.tools.ToolProvider;

/**
 * ../shared/LANGUAGE.md, rule by rule, as far as the compiler's own tree of a file can show it. The
 * class has to keep every rule; and each of some small files that break one is refused by its number,
 * so that a rule that is looked at in vain would be noticed.
 */
public final class LanguageTest extends TreePathScanner<Void, Void> {
    private static final Path MAIN = Path.of("src/main/java/MotherBench.java");
    private static final Path DOCUMENT = Path.of("../shared/DOC.md");

    private static final Set<String> LIBRARY = Set.of(
            "java.util.Arrays.fill", "java.util.Arrays.copyOf", "java.util.Arrays.copyOfRange",
            "java.lang.System.arraycopy", "java.lang.Math.max", "java.lang.Math.min", "java.lang.Math.abs",
            "java.lang.Integer.bitCount", "java.lang.Integer.compare", "java.lang.Long.compare",
            "java.lang.String.length", "java.lang.String.charAt", "java.lang.Object.<init>");
    private static final Set<String> NUMBERS = Set.of("int", "long", "short", "byte", "char", "boolean");
    /** The two methods that divide by what is no constant; each looks at it first. */
    private static final Set<String> DIVIDERS = Set.of("MotherBench.Fraction.put", "MotherBench.Fraction.greatestDivisor");

    private final List<String> face;
    private final Set<String> faceNames = new TreeSet<>();
    private final Trees trees;
    private final CompilationUnitTree unit;
    private final Map<String, Set<String>> calls = new LinkedHashMap<>();
    private final Map<String, String> broken = new LinkedHashMap<>();
    private int classes;

    private LanguageTest(Path file, List<String> face) throws Exception {
        this.face = face;
        for (String member : face) {
            faceNames.add(member.replaceAll("\\(.*", "").replaceAll(".* ", ""));
        }
        JavaCompiler compiler = ToolProvider.getSystemJavaCompiler();
        StandardJavaFileManager files = compiler.getStandardFileManager(null, null, null);
        JavacTask task = (JavacTask) compiler.getTask(null, files, null, List.of("-proc:none"), null, files.getJavaFileObjects(file));
        unit = task.parse().iterator().next();
        task.analyze();
        trees = Trees.instance(task);
    }

    public static void main(String[] args) throws Exception {
        Map<String, String> broken = new LanguageTest(MAIN, documentsFace()).look();
        broken.forEach((where, rule) -> System.out.println("rule " + rule + ": " + where));
        int unnoticed = breaches();
        System.out.println(broken.isEmpty() && unnoticed == 0 ? "the language is kept to"
                : broken.size() + " breaches, " + unnoticed + " made on purpose and not noticed");
        if (!broken.isEmpty() || unnoticed != 0) {
            System.exit(1);
        }
    }

    /** The members of the document's face, one text each, in its order. */
    private static List<String> documentsFace() throws Exception {
        List<String> members = new ArrayList<>();
        for (String line : Files.readAllLines(DOCUMENT)) {
            if (line.startsWith("    public ")) {
                members.add(line.strip().replace(";", ""));
            }
        }
        return members;
    }

    private Map<String, String> look() {
        refuse(unit.getPackageName() != null, "1", "a package line");
        refuse(unit.getTypeDecls().size() != 1, "1", "one class");
        scan(unit, null);
        refuse(classes > 13, "11", "at most some twelve classes inside");
        for (String method : calls.keySet()) {
            deepen(method, new LinkedHashSet<>());
        }
        return broken;
    }

    private void refuse(boolean is, String rule, String where) {
        if (is) {
            broken.put(where, rule);
        }
    }

    private void refuseHere(boolean is, String rule, Tree tree) {
        refuse(is, rule, "line " + line(trees.getSourcePositions().getStartPosition(unit, tree)) + ": " + tree);
    }

    private long line(long position) {
        return unit.getLineMap().getLineNumber(position);
    }

    // ---- rules 1, 2, 5, 11: members ----

    @Override
    public Void visitClass(ClassTree tree, Void none) {
        classes++;
        boolean outer = getCurrentPath().getParentPath().getLeaf() == unit;
        Set<Modifier> flags = tree.getModifiers().getFlags();
        refuseHere(outer && !flags.equals(Set.of(Modifier.PUBLIC, Modifier.FINAL)), "1", tree.getModifiers());
        refuseHere(!outer && (!flags.contains(Modifier.STATIC) || flags.contains(Modifier.PUBLIC)
                || flags.contains(Modifier.PROTECTED)), "1", tree);
        boolean member = getCurrentPath().getParentPath().getLeaf() instanceof ClassTree;
        refuseHere(!outer && !member, "2", tree);
        List<String> members = new ArrayList<>();
        int fields = 0;
        for (Tree part : tree.getMembers()) {
            fields += part instanceof VariableTree v && !v.getModifiers().getFlags().contains(Modifier.STATIC) ? 1 : 0;
            refuseHere(part instanceof BlockTree, "5", part);
            if (outer && !isPrivate(part)) {
                members.add(signature(part));
            }
        }
        refuse(outer && !members.equals(face), "1", "the face, not as in the document: " + members);
        refuse(fields > 20, "11", "at most some twenty fields: " + tree.getSimpleName());
        return super.visitClass(tree, none);
    }

    /** Classes inside and blocks are looked at for themselves. */
    private static boolean isPrivate(Tree member) {
        return member instanceof ClassTree || member instanceof BlockTree
                || member instanceof MethodTree m && m.getModifiers().getFlags().contains(Modifier.PRIVATE)
                || member instanceof VariableTree v && v.getModifiers().getFlags().contains(Modifier.PRIVATE);
    }

    private String signature(Tree member) {
        if (member instanceof MethodTree m) {
            List<String> parameters = new ArrayList<>();
            m.getParameters().forEach(p -> parameters.add(p.getType() + " " + p.getName()));
            boolean constructor = m.getReturnType() == null;
            String name = constructor ? unit.getTypeDecls().get(0) instanceof ClassTree c ? c.getSimpleName().toString() : ""
                    : m.getReturnType() + " " + m.getName();
            return flags(m.getModifiers().getFlags()) + name + "(" + String.join(", ", parameters) + ")";
        }
        VariableTree v = (VariableTree) member;
        return flags(v.getModifiers().getFlags()) + v.getType() + " " + v.getName() + " = " + v.getInitializer();
    }

    private static String flags(Set<Modifier> flags) {
        StringBuilder text = new StringBuilder();
        flags.forEach(f -> text.append(f).append(' '));
        return text.toString();
    }

    @Override
    public Void visitMethod(MethodTree tree, Void none) {
        boolean ofFace = tree.getModifiers().getFlags().contains(Modifier.PUBLIC);
        refuseHere(!ofFace && faceNames.contains(tree.getName().toString()), "1", tree);
        refuseHere(tree.getParameters().size() > 7, "11", tree);
        long first = line(trees.getSourcePositions().getStartPosition(unit, tree));
        long last = line(trees.getSourcePositions().getEndPosition(unit, tree));
        refuseHere(last - first + 1 > 60, "11", tree);
        calls.computeIfAbsent(name(trees.getElement(getCurrentPath())), k -> new TreeSet<>());
        return super.visitMethod(tree, none);
    }

    // ---- rules 3, 5, 12: what is kept and made ----

    @Override
    public Void visitVariable(VariableTree tree, Void none) {
        VariableElement variable = (VariableElement) trees.getElement(getCurrentPath());
        refuseHere(!isAllowed(variable.asType().toString()), "3", tree);
        if (variable.getModifiers().contains(Modifier.STATIC)) {
            boolean writtenOut = tree.getInitializer() instanceof NewArrayTree a && a.getInitializers() != null;
            boolean constant = variable.getConstantValue() != null || writtenOut;
            refuseHere(!constant || !variable.getModifiers().contains(Modifier.FINAL), "5", tree);
        }
        return super.visitVariable(tree, none);
    }

    private static boolean isAllowed(String type) {
        String of = type.replaceAll("\\[\\]", "");
        int depth = (type.length() - of.length()) / 2;
        boolean own = of.equals("MotherBench") || of.startsWith("MotherBench.");
        return NUMBERS.contains(of) && depth <= 2 || own && depth <= 1 || of.equals("java.lang.String") && depth == 0;
    }

    @Override
    public Void visitNewClass(NewClassTree tree, Void none) {
        refuseHere(tree.getClassBody() != null, "2", tree);
        refuseHere(isMadeByACall(), "12", tree);
        note(tree);
        return super.visitNewClass(tree, none);
    }

    @Override
    public Void visitNewArray(NewArrayTree tree, Void none) {
        refuseHere(isMadeByACall(), "12", tree);
        return super.visitNewArray(tree, none);
    }

    /** All calls of a run share one room: what is made is made with the object, never by a call. */
    private boolean isMadeByACall() {
        MethodTree method = methodHere();
        return method != null && method.getReturnType() != null;
    }

    private MethodTree methodHere() {
        for (TreePath path = getCurrentPath(); path != null; path = path.getParentPath()) {
            if (path.getLeaf() instanceof MethodTree m) {
                return m;
            }
        }
        return null;
    }

    // ---- rules 4, 8, 11: calls ----

    @Override
    public Void visitMethodInvocation(MethodInvocationTree tree, Void none) {
        note(tree);
        return super.visitMethodInvocation(tree, none);
    }

    /** A call, or a constructor's: it stands in the method where the scan is. */
    private void note(Tree call) {
        String name = name(trees.getElement(getCurrentPath()));
        refuseHere(!name.startsWith("MotherBench") && !LIBRARY.contains(name), "4", call);
        if (methodHere() != null) {
            calls.computeIfAbsent(nameOfMethodHere(), k -> new TreeSet<>()).add(name);
        }
    }

    private String nameOfMethodHere() {
        for (TreePath path = getCurrentPath(); path != null; path = path.getParentPath()) {
            if (path.getLeaf() instanceof MethodTree) {
                return name(trees.getElement(path));
            }
        }
        return "";
    }

    private static String name(Element method) {
        return method.getEnclosingElement() + "." + method.getSimpleName();
    }

    private void deepen(String method, LinkedHashSet<String> open) {
        refuse(open.contains(method), "8", "calls itself: " + method);
        if (!open.add(method)) {
            return;
        }
        refuse(open.size() > 8, "11", "calls go deeper than eight: " + open);
        for (String next : calls.getOrDefault(method, Set.of())) {
            if (open.size() <= 8) {
                deepen(next, open);
            }
        }
        open.remove(method);
    }

    @Override
    public Void visitImport(ImportTree tree, Void none) {
        refuseHere(!tree.getQualifiedIdentifier().toString().equals("java.util.Arrays"), "4", tree);
        return super.visitImport(tree, none);
    }

    // ---- rules 2, 6: what may not stand at all ----

    @Override
    public Void visitLambdaExpression(LambdaExpressionTree tree, Void none) {
        refuseHere(true, "2", tree);
        return super.visitLambdaExpression(tree, none);
    }

    @Override
    public Void visitMemberReference(MemberReferenceTree tree, Void none) {
        refuseHere(true, "2", tree);
        return super.visitMemberReference(tree, none);
    }

    @Override
    public Void visitThrow(ThrowTree tree, Void none) {
        refuseHere(true, "6", tree);
        return super.visitThrow(tree, none);
    }

    @Override
    public Void visitTry(TryTree tree, Void none) {
        refuseHere(true, "6", tree);
        return super.visitTry(tree, none);
    }

    @Override
    public Void visitSynchronized(SynchronizedTree tree, Void none) {
        refuseHere(true, "6", tree);
        return super.visitSynchronized(tree, none);
    }

    @Override
    public Void visitAssert(AssertTree tree, Void none) {
        refuseHere(true, "6", tree);
        return super.visitAssert(tree, none);
    }

    @Override
    public Void visitSwitchExpression(SwitchExpressionTree tree, Void none) {
        refuseHere(true, "6", tree);
        return super.visitSwitchExpression(tree, none);
    }

    @Override
    public Void visitInstanceOf(InstanceOfTree tree, Void none) {
        refuseHere(true, "6", tree);
        return super.visitInstanceOf(tree, none);
    }

    @Override
    public Void visitTypeCast(TypeCastTree tree, Void none) {
        refuseHere(!NUMBERS.contains(tree.getType().toString()), "6", tree);
        return super.visitTypeCast(tree, none);
    }

    // ---- rules 6, 7, 10: operators ----

    @Override
    public Void visitBinary(BinaryTree tree, Void none) {
        boolean texts = isText(tree.getLeftOperand()) || isText(tree.getRightOperand());
        refuseHere(texts && tree.getKind() == Tree.Kind.PLUS, "10", tree);
        refuseHere(texts && (tree.getKind() == Tree.Kind.EQUAL_TO || tree.getKind() == Tree.Kind.NOT_EQUAL_TO), "6", tree);
        boolean divides = tree.getKind() == Tree.Kind.DIVIDE || tree.getKind() == Tree.Kind.REMAINDER;
        refuseHere(divides && !isSafeDivisor(tree.getRightOperand()), "7", tree);
        return super.visitBinary(tree, none);
    }

    @Override
    public Void visitCompoundAssignment(CompoundAssignmentTree tree, Void none) {
        boolean divides = tree.getKind() == Tree.Kind.DIVIDE_ASSIGNMENT || tree.getKind() == Tree.Kind.REMAINDER_ASSIGNMENT;
        refuseHere(divides && !isSafeDivisor(tree.getExpression()), "7", tree);
        refuseHere(isText(tree.getVariable()), "10", tree);
        return super.visitCompoundAssignment(tree, none);
    }

    private boolean isText(ExpressionTree part) {
        TypeMirror type = trees.getTypeMirror(new TreePath(getCurrentPath(), part));
        return type != null && type.toString().equals("java.lang.String");
    }

    private boolean isSafeDivisor(ExpressionTree divisor) {
        Element named = trees.getElement(new TreePath(getCurrentPath(), divisor));
        boolean constant = named instanceof VariableElement v && v.getConstantValue() instanceof Number n && n.longValue() != 0;
        boolean literal = divisor instanceof LiteralTree l && l.getValue() instanceof Number n && n.longValue() != 0;
        return constant || literal || DIVIDERS.contains(nameOfMethodHere());
    }

    // ---- rule 9: loops ----

    @Override
    public Void visitForLoop(ForLoopTree tree, Void none) {
        refuseHere(tree.getUpdate().isEmpty() || isEndless(tree.getCondition()), "9", tree);
        return super.visitForLoop(tree, none);
    }

    @Override
    public Void visitWhileLoop(WhileLoopTree tree, Void none) {
        refuseHere(isEndless(tree.getCondition()), "9", tree);
        return super.visitWhileLoop(tree, none);
    }

    @Override
    public Void visitDoWhileLoop(DoWhileLoopTree tree, Void none) {
        refuseHere(isEndless(tree.getCondition()), "9", tree);
        return super.visitDoWhileLoop(tree, none);
    }

    private static boolean isEndless(ExpressionTree condition) {
        return condition == null || condition.toString().matches("\\(?true\\)?");
    }

    // ---- breaches made on purpose ----

    /** How many small classes that break a rule were let pass; each text stands behind its rule's number. */
    private static int breaches() throws Exception {
        String[][] parts = {
            {"", "int x() { return 1; }"},
            {"1", "public int y() { return 1; }"},
            {"1", "int y() { return 1; }"},
            {"1", "private int x(int a) { return a; }"},
            {"1", "private final class Y { }"},
            {"1", "public static final class Y { }"},
            {"2", "private Runnable y() { return () -> { }; }"},
            {"2", "private void y() { class Z { } }"},
            {"2", "private Object y() { return new Object() { }; }"},
            {"3", "private java.util.Map<Integer, Integer> y;"},
            {"3", "private final String[] y = null;"},
            {"3", "private final int[][][] y = null;"},
            {"4", "private long y() { return System.nanoTime(); }"},
            {"4", "private int y() { return Math.addExact(1, 2); }"},
            {"5", "private static int y = 1;"},
            {"5", "private static final int[] Y = new int[3];"},
            {"5", "static { }"},
            {"6", "private int y() { throw new IllegalStateException(); }"},
            {"6", "private int y() { try { return 1; } finally { } }"},
            {"6", "private void y() { assert true; }"},
            {"6", "private boolean y(String a, String b) { return a == b; }"},
            {"7", "private int y(int a, int b) { return a / b; }"},
            {"7", "private int y(int a, int b) { a %= b; return a; }"},
            {"7", "private int y(int a) { return a / 0; }"},
            {"8", "private int y(int a) { return a > 0 ? y(a - 1) : 0; }"},
            {"8", "private int y(int a) { return a > 0 ? z(a - 1) : 0; } private int z(int a) { return y(a); }"},
            {"9", "private void y() { while (true) { } }"},
            {"9", "private void y() { for (int i = 0; i < 3; ) { i++; } }"},
            {"10", "private String y(String a, int b) { return a + b; }"},
            {"11", "private void y(int a, int b, int c, int d, int e, int f, int g, int h) { }"},
            {"11", "private void y() {" + "\n".repeat(60) + "}"},
            {"11", "private int " + fields(21) + ";"},
            {"11", chain(9)},
            {"12", "private int[] y() { return new int[3]; }"},
        };
        int unnoticed = 0;
        Path folder = Files.createTempDirectory("language");
        Path file = folder.resolve("MotherBench.java");
        for (String[] part : parts) {
            String own = part[0].isEmpty() ? "" : part[1];
            Files.writeString(file, "public final class MotherBench { public MotherBench() { } public int x() { return 1; } " + own + "}");
            Map<String, String> found = new LanguageTest(file, List.of("public MotherBench()", "public int x()")).look();
            boolean noticed = part[0].isEmpty() ? found.isEmpty() : found.containsValue(part[0]);
            if (!noticed) {
                unnoticed++;
                System.out.println("rule " + part[0] + " was not looked at in: " + part[1] + " " + new TreeMap<>(found));
            }
        }
        Files.delete(file);
        Files.delete(folder);
        return unnoticed;
    }

    private static String fields(int n) {
        List<String> names = new ArrayList<>();
        for (int i = 0; i < n; i++) {
            names.add("f" + i);
        }
        return String.join(", ", names);
    }

    /** Methods that call one another, so many deep. */
    private static String chain(int deep) {
        StringBuilder text = new StringBuilder("private int c0() { return 0; } ");
        for (int i = 1; i < deep; i++) {
            text.append("private int c").append(i).append("() { return c").append(i - 1).append("(); } ");
        }
        return text.toString();
    }
}
