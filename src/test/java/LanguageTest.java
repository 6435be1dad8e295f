import com.sun.source.tree.AssertTree;
import com.sun.source.tree.BlockTree;
import com.sun.source.tree.CatchTree;
import com.sun.source.tree.ClassTree;
import com.sun.source.tree.CompilationUnitTree;
import com.sun.source.tree.DoWhileLoopTree;
import com.sun.source.tree.ForLoopTree;
import com.sun.source.tree.LambdaExpressionTree;
import com.sun.source.tree.MemberReferenceTree;
import com.sun.source.tree.MemberSelectTree;
import com.sun.source.tree.MethodInvocationTree;
import com.sun.source.tree.MethodTree;
import com.sun.source.tree.NewArrayTree;
import com.sun.source.tree.NewClassTree;
import com.sun.source.tree.SynchronizedTree;
import com.sun.source.tree.ThrowTree;
import com.sun.source.tree.TryTree;
import com.sun.source.tree.VariableTree;
import com.sun.source.tree.WhileLoopTree;
import com.sun.source.util.JavacTask;
import com.sun.source.util.TreePath;
import com.sun.source.util.TreePathScanner;
import com.sun.source.util.Trees;
import java.lang.reflect.Constructor;
import java.lang.reflect.Field;
import java.lang.reflect.Method;
import java.lang.reflect.Modifier;
import java.nio.file.Files;
import java.nio.file.Path;
import java.util.ArrayList;
import java.util.HashMap;
import java.util.HashSet;
import java.util.List;
import java.util.Map;
import java.util.Set;
import java.util.TreeSet;
import java.util.regex.Matcher;
import java.util.regex.Pattern;
import javax.lang.model.element.Element;
import javax.lang.model.element.ElementKind;
import javax.tools.JavaCompiler;
import javax.tools.ToolProvider;

/** What of LANGUAGE.md, and of the document's face, can be seen from the source and the class. */
public final class LanguageTest {
    private static final Path SOURCE = Path.of("src/main/java/DaughtersGate.java");
    private static final Path DOCUMENT = Path.of("../shared/DOC.md");
    private static final Set<String> LIBRARY = Set.of("Math.min", "Math.max", "Integer.bitCount", "Arrays.fill", "System.arraycopy");
    private static final Set<String> TEXT = Set.of("length", "charAt");
    private static final Set<String> CONSTANTS = Set.of("int", "long", "boolean", "char", "String", "int[]", "long[]", "char[]", "byte[]");
    private static final int MAX_LINES = 60;
    private static final int MAX_DEPTH = 8;
    private static int wrong = 0;

    private static void hold(boolean holds, String rule) {
        if (!holds) {
            wrong++;
            System.out.println("not held: " + rule);
        }
    }

    /** Each public method is as the document writes it, and there is no other. */
    private static void face() throws Exception {
        Set<String> due = new TreeSet<>();
        Matcher m = Pattern.compile("(?m)^    public (int|long) (\\w+)\\(([^)]*)\\);").matcher(Files.readString(DOCUMENT));
        while (m.find()) {
            due.add(m.group(1) + " " + m.group(2) + "(" + m.group(3).replaceAll(" \\w+(, |$)", "$1") + ")");
        }
        Set<String> got = new TreeSet<>();
        for (Method x : DaughtersGate.class.getDeclaredMethods()) {
            List<String> types = new ArrayList<>();
            for (Class<?> t : x.getParameterTypes()) {
                types.add(t.getName());
            }
            if (Modifier.isPublic(x.getModifiers())) {
                got.add(x.getReturnType().getName() + " " + x.getName() + "(" + String.join(", ", types) + ")");
            } else {
                hold(Modifier.isPrivate(x.getModifiers()) || x.isSynthetic(), "1: " + x + " is private");
            }
        }
        hold(due.size() == 65, "the document has 65 methods, seen " + due.size());
        hold(got.equals(due), "1: the face is " + due + ", but it is " + got);
        hold(Modifier.isFinal(DaughtersGate.class.getModifiers()), "1: the class is final");
        for (Field f : DaughtersGate.class.getDeclaredFields()) {
            hold(Modifier.isPrivate(f.getModifiers()) || f.getName().equals("NONE"), "1: " + f + " is private");
            hold(!Modifier.isStatic(f.getModifiers()) || Modifier.isFinal(f.getModifiers()), "5: " + f + " is final");
        }
        Constructor<?>[] made = DaughtersGate.class.getDeclaredConstructors();
        hold(made.length == 1 && made[0].getParameterCount() == 0, "1: one constructor");
    }

    private static void words(String source) {
        for (String line : source.split("\n")) {
            hold(!line.startsWith("import ") || line.equals("import java.util.Arrays;"), "4: " + line);
        }
        Matcher m = Pattern.compile("\\b(Math|Integer|Long|Arrays|System|String|List|Boolean)\\.(\\w+)").matcher(source);
        while (m.find()) {
            hold(LIBRARY.contains(m.group()), "4: " + m.group());
        }
        for (int i = 0; i < source.length(); i++) {
            hold(source.charAt(i) < 128, "4: a sign above 127 at " + i);
        }
    }

    private static final class Look extends TreePathScanner<Void, Void> {
        final Trees trees;
        final CompilationUnitTree unit;
        final Map<Element, Set<Element>> calls = new HashMap<>();
        final Set<String> publics = new HashSet<>();
        Element inside;
        int classes = 0;

        Look(Trees trees, CompilationUnitTree unit) {
            this.trees = trees;
            this.unit = unit;
        }

        private long line(long position) {
            return unit.getLineMap().getLineNumber(position);
        }

        @Override public Void visitClass(ClassTree c, Void v) {
            classes++;
            int fields = 0;
            for (var member : c.getMembers()) {
                if (member instanceof VariableTree x && !x.getModifiers().getFlags().contains(javax.lang.model.element.Modifier.STATIC)) {
                    fields++;
                }
            }
            hold(fields <= 20, "11: " + c.getSimpleName() + " has " + fields + " fields");
            shape(c);
            return super.visitClass(c, v);
        }

        /** Classes inside are static ones with names, and no class has a block that runs of itself. */
        private void shape(ClassTree c) {
            boolean within = getCurrentPath().getParentPath().getLeaf() != unit;
            hold(c.getSimpleName().length() > 0, "2: an anonymous class at line " + line(trees.getSourcePositions().getStartPosition(unit, c)));
            hold(!within || c.getModifiers().getFlags().contains(javax.lang.model.element.Modifier.STATIC), "2: " + c.getSimpleName() + " is static");
            hold(!within || getCurrentPath().getParentPath().getLeaf() instanceof ClassTree, "2: " + c.getSimpleName() + " is local");
            for (var member : c.getMembers()) {
                hold(!(member instanceof BlockTree), "5: a block that runs of itself in " + c.getSimpleName());
            }
        }

        @Override public Void visitVariable(VariableTree x, Void v) {
            var flags = x.getModifiers().getFlags();
            boolean isStatic = flags.contains(javax.lang.model.element.Modifier.STATIC);
            hold(!isStatic || flags.contains(javax.lang.model.element.Modifier.FINAL), "5: " + x.getName() + " is final");
            hold(!isStatic || CONSTANTS.contains(x.getType().toString()), "5: " + x.getName() + " is a constant");
            return super.visitVariable(x, v);
        }

        @Override public Void visitMemberSelect(MemberSelectTree m, Void v) {
            Element owner = trees.getElement(new TreePath(getCurrentPath(), m.getExpression()));
            if (owner != null && owner.asType().toString().equals("java.lang.String")) {
                hold(TEXT.contains(m.getIdentifier().toString()), "4: " + m);
            }
            return super.visitMemberSelect(m, v);
        }

        /** No loop without a bound in its own lines: each has a condition that is no constant. */
        private void bounded(Object condition) {
            hold(condition != null && !(condition.toString().replaceAll("[()]", "").equals("true")), "9: a loop on " + condition);
        }

        @Override public Void visitForLoop(ForLoopTree t, Void v) {
            bounded(t.getCondition());
            return super.visitForLoop(t, v);
        }

        @Override public Void visitWhileLoop(WhileLoopTree t, Void v) {
            bounded(t.getCondition());
            return super.visitWhileLoop(t, v);
        }

        @Override public Void visitDoWhileLoop(DoWhileLoopTree t, Void v) {
            bounded(t.getCondition());
            return super.visitDoWhileLoop(t, v);
        }

        @Override public Void visitNewClass(NewClassTree n, Void v) {
            hold(inside == null || inside.getKind() == ElementKind.CONSTRUCTOR, "room: " + n + " is made by a call");
            return super.visitNewClass(n, v);
        }

        @Override public Void visitNewArray(NewArrayTree n, Void v) {
            hold(inside == null || inside.getKind() == ElementKind.CONSTRUCTOR, "room: " + n + " is made by a call");
            return super.visitNewArray(n, v);
        }

        @Override public Void visitMethod(MethodTree m, Void v) {
            long lines = line(trees.getSourcePositions().getEndPosition(unit, m)) - line(trees.getSourcePositions().getStartPosition(unit, m)) + 1;
            hold(lines <= MAX_LINES, "11: " + m.getName() + " has " + lines + " lines");
            hold(m.getParameters().size() <= 7, "11: parameters of " + m.getName());
            boolean isPublic = m.getModifiers().getFlags().contains(javax.lang.model.element.Modifier.PUBLIC);
            hold(isPublic || !publics.contains(m.getName().toString()), "1: " + m.getName() + " bears a public name");
            inside = trees.getElement(getCurrentPath());
            calls.computeIfAbsent(inside, k -> new HashSet<>());
            super.visitMethod(m, v);
            inside = null;
            return null;
        }

        @Override public Void visitMethodInvocation(MethodInvocationTree call, Void v) {
            Element to = trees.getElement(new TreePath(getCurrentPath(), call.getMethodSelect()));
            if (inside != null && to != null && trees.getPath(to) != null) {
                calls.get(inside).add(to);
            }
            return super.visitMethodInvocation(call, v);
        }

        private Void ruledOut(Object tree) {
            hold(false, "6 or 2: " + tree);
            return null;
        }

        @Override public Void visitThrow(ThrowTree t, Void v) { return ruledOut(t); }
        @Override public Void visitTry(TryTree t, Void v) { return ruledOut(t); }
        @Override public Void visitCatch(CatchTree t, Void v) { return ruledOut(t); }
        @Override public Void visitAssert(AssertTree t, Void v) { return ruledOut(t); }
        @Override public Void visitSynchronized(SynchronizedTree t, Void v) { return ruledOut(t); }
        @Override public Void visitLambdaExpression(LambdaExpressionTree t, Void v) { return ruledOut(t); }
        @Override public Void visitMemberReference(MemberReferenceTree t, Void v) { return ruledOut(t); }

        /** Calls that stand open at once below a method, those of itself aside. */
        int depth(Element method, Set<Element> open) {
            int most = 0;
            open.add(method);
            for (Element to : calls.getOrDefault(method, Set.of())) {
                if (!open.contains(to)) {
                    most = Math.max(most, depth(to, open));
                }
            }
            open.remove(method);
            return most + 1;
        }
    }

    private static void tree() throws Exception {
        JavaCompiler compiler = ToolProvider.getSystemJavaCompiler();
        try (var files = compiler.getStandardFileManager(null, null, null)) {
            JavacTask task = (JavacTask) compiler.getTask(null, files, null, List.of("-proc:none"), null, files.getJavaFileObjects(SOURCE));
            CompilationUnitTree unit = task.parse().iterator().next();
            task.analyze();
            Look look = new Look(Trees.instance(task), unit);
            for (Method m : DaughtersGate.class.getDeclaredMethods()) {
                if (Modifier.isPublic(m.getModifiers())) {
                    look.publics.add(m.getName());
                }
            }
            look.scan(unit, null);
            hold(look.classes <= 12, "11: there are " + look.classes + " classes");
            for (Element m : look.calls.keySet()) {
                int depth = look.depth(m, new HashSet<>());
                hold(depth <= MAX_DEPTH, "11: calls go " + depth + " deep from " + m);
            }
        }
    }

    public static void main(String[] args) throws Exception {
        face();
        words(Files.readString(SOURCE));
        tree();
        System.out.println(wrong == 0 ? "language: all rules that can be seen hold" : "language: " + wrong + " rules do not hold");
        if (wrong != 0) {
            System.exit(1);
        }
    }
}
