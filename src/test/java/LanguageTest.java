import com.sun.source.tree.AssertTree;
import com.sun.source.tree.BinaryTree;
import com.sun.source.tree.BlockTree;
import com.sun.source.tree.ClassTree;
import com.sun.source.tree.CompilationUnitTree;
import com.sun.source.tree.DoWhileLoopTree;
import com.sun.source.tree.EnhancedForLoopTree;
import com.sun.source.tree.ExpressionTree;
import com.sun.source.tree.ForLoopTree;
import com.sun.source.tree.InstanceOfTree;
import com.sun.source.tree.LambdaExpressionTree;
import com.sun.source.tree.LiteralTree;
import com.sun.source.tree.MemberReferenceTree;
import com.sun.source.tree.MethodInvocationTree;
import com.sun.source.tree.MethodTree;
import com.sun.source.tree.NewClassTree;
import com.sun.source.tree.SynchronizedTree;
import com.sun.source.tree.ThrowTree;
import com.sun.source.tree.Tree;
import com.sun.source.tree.TryTree;
import com.sun.source.tree.TypeCastTree;
import com.sun.source.tree.VariableTree;
import com.sun.source.tree.WhileLoopTree;
import com.sun.source.util.JavacTask;
import com.sun.source.util.TreePath;
import com.sun.source.util.TreePathScanner;
import com.sun.source.util.Trees;
import java.io.File;
import java.lang.reflect.Constructor;
import java.lang.reflect.Field;
import java.lang.reflect.Method;
import java.lang.reflect.Modifier;
import java.util.ArrayList;
import java.util.HashMap;
import java.util.LinkedHashMap;
import java.util.List;
import java.util.Map;
import java.util.Set;
import java.util.TreeSet;
import javax.lang.model.element.Element;
import javax.lang.model.element.ExecutableElement;
import javax.lang.model.element.TypeElement;
import javax.tools.JavaCompiler;
import javax.tools.StandardJavaFileManager;
import javax.tools.ToolProvider;

/** LANGUAGE.md and the public face, as far as a machine can see them. */
public final class LanguageTest {
    private static final String FACE = "feed(int,int,int,int,int) end(int) line() fault(int) yard(int,int) "
            + "coach(int,int) rain(int) post(int,int) shift(int,int) swap(int,int) tick(int,int,int,int,int) "
            + "can(int,int,int,int) step(int,int,int,int) handled(int,int,int,int,int) hard(int,int,int,int) "
            + "quick(int,int,int,int) jolt(int,int,int,int) stands(int,int,int,int) posts(int,int,int,int) "
            + "speeds(int,int,int) wetter(int,int,int,int) room(int,int) told(int,int,int,int) "
            + "judge(int,int,int,int,int) pulls(int,int,int) passes(int,int) lets(int,int) comes(int,int) "
            + "clear(int) good() breach(int) mistake(int,int) weak(int) start(int) shunts(int,int) order(int,int) "
            + "blocked(int) saved(int,int) best(int) margin(int,int) days(int,int,int,int) day(int,int,int) "
            + "count(int) keep(int) back(int) row(int,int,int) write(int,int,long) paste(int,int,int,int,int)";
    private static final Set<String> LIBRARY = Set.of("java.lang.Math.max", "java.lang.Math.min",
            "java.lang.Integer.bitCount", "java.lang.System.arraycopy", "java.util.Arrays.fill",
            "java.lang.String.length", "java.lang.String.charAt", "java.lang.Object.<init>");
    private static final Set<String> IMPORTS = Set.of("java.util.Arrays");
    private static final Set<String> PLAIN = Set.of("int", "long", "short", "byte", "char", "boolean");
    private static final int DEEPEST = 8;
    private static final Due DUE = new Due();

    public static void main(String[] args) throws Exception {
        face();
        JavaCompiler compiler = ToolProvider.getSystemJavaCompiler();
        try (StandardJavaFileManager files = compiler.getStandardFileManager(null, null, null)) {
            JavacTask task = (JavacTask) compiler.getTask(null, files, null, List.of("-proc:none"), null,
                    files.getJavaFileObjects(new File("src/main/java/SlipCoach.java")));
            CompilationUnitTree unit = task.parse().iterator().next();
            task.analyze();
            Scan scan = new Scan(unit, Trees.instance(task));
            scan.scan(unit, null);
            scan.depths();
        }
        DUE.close("LanguageTest");
    }

    private static void ok(String rule, boolean kept) {
        DUE.is(rule, kept ? 1 : 0, 1);
    }

    private static void face() {
        Set<String> due = new TreeSet<>(List.of(FACE.split(" ")));
        Set<String> found = new TreeSet<>();
        for (Method m : SlipCoach.class.getDeclaredMethods()) {
            if (Modifier.isPrivate(m.getModifiers()) || m.isSynthetic()) {
                continue;
            }
            StringBuilder b = new StringBuilder(m.getName()).append('(');
            for (Class<?> c : m.getParameterTypes()) {
                b.append(b.charAt(b.length() - 1) == '(' ? "" : ",").append(c.getName());
            }
            found.add(b.append(')').toString());
            ok("public, of int: " + b, Modifier.isPublic(m.getModifiers()) && m.getReturnType() == int.class);
        }
        ok("the face: " + found, due.equals(found));
        ok("public and final", Modifier.isPublic(SlipCoach.class.getModifiers()) && Modifier.isFinal(SlipCoach.class.getModifiers()));
        for (Field f : SlipCoach.class.getDeclaredFields()) {
            ok("private: " + f.getName(), Modifier.isPrivate(f.getModifiers()) || f.getName().equals("NONE"));
        }
        Constructor<?>[] all = SlipCoach.class.getDeclaredConstructors();
        ok("one constructor", all.length == 1 && all[0].getParameterCount() == 0);
    }

    private static final class Scan extends TreePathScanner<Void, Void> {
        private final CompilationUnitTree unit;
        private final Trees trees;
        private final Map<String, Set<String>> calls = new LinkedHashMap<>();
        private final Map<String, Integer> known = new HashMap<>();
        private String inside = "";
        private int classes = 0;

        Scan(CompilationUnitTree unit, Trees trees) {
            this.unit = unit;
            this.trees = trees;
        }

        private long lineOf(long position) {
            return unit.getLineMap().getLineNumber(position);
        }

        private void never(String what, Tree tree) {
            ok("rule broken: " + what + " in line "
                    + lineOf(trees.getSourcePositions().getStartPosition(unit, tree)), false);
        }

        @Override public Void visitClass(ClassTree node, Void p) {
            classes++;
            ok("rule 11: twelve classes", classes <= 12);
            int fields = 0;
            for (Tree member : node.getMembers()) {
                if (member instanceof BlockTree) {
                    never("rule 5: an initialiser block", member);
                }
                if (member instanceof VariableTree v) {
                    Set<javax.lang.model.element.Modifier> m = v.getModifiers().getFlags();
                    boolean fixed = m.contains(javax.lang.model.element.Modifier.STATIC);
                    ok("rule 5: " + v.getName(), !fixed || m.contains(javax.lang.model.element.Modifier.FINAL));
                    fields += fixed ? 0 : 1;
                }
            }
            ok("rule 11: fields of " + node.getSimpleName() + ": " + fields, fields <= 20);
            ok("rule 2: " + node.getSimpleName(), node.getSimpleName().contentEquals("SlipCoach")
                    || node.getModifiers().getFlags().contains(javax.lang.model.element.Modifier.STATIC));
            return super.visitClass(node, p);
        }

        @Override public Void visitMethod(MethodTree node, Void p) {
            ok("rule 11: parameters of " + node.getName(), node.getParameters().size() <= 7);
            long lines = lineOf(trees.getSourcePositions().getEndPosition(unit, node))
                    - lineOf(trees.getSourcePositions().getStartPosition(unit, node)) + 1;
            ok("rule 11: lines of " + node.getName() + ": " + lines, lines <= 60);
            boolean open = node.getModifiers().getFlags().contains(javax.lang.model.element.Modifier.PUBLIC);
            ok("rule 1: the name of a public one, " + node.getName(),
                    open || !(" " + FACE).contains(" " + node.getName() + "("));
            String outer = inside;
            inside = nameOf(trees.getElement(getCurrentPath()));
            calls.putIfAbsent(inside, new TreeSet<>());
            super.visitMethod(node, p);
            inside = outer;
            return null;
        }

        private static String nameOf(Element e) {
            return ((TypeElement) e.getEnclosingElement()).getQualifiedName() + "." + e.getSimpleName()
                    + (e instanceof ExecutableElement m ? m.getParameters().size() : "");
        }

        private void called(Element e, Tree node) {
            if (!(e instanceof ExecutableElement)) {
                never("a call of what is not known", node);
                return;
            }
            String owner = ((TypeElement) e.getEnclosingElement()).getQualifiedName().toString();
            if (owner.startsWith("SlipCoach")) {
                calls.computeIfAbsent(inside, k -> new TreeSet<>()).add(nameOf(e));
            } else {
                ok("rule 4: " + owner + "." + e.getSimpleName(), LIBRARY.contains(owner + "." + e.getSimpleName()));
                calls.computeIfAbsent(inside, k -> new TreeSet<>()).add("library");
            }
        }

        @Override public Void visitMethodInvocation(MethodInvocationTree node, Void p) {
            called(trees.getElement(getCurrentPath()), node);
            return super.visitMethodInvocation(node, p);
        }

        @Override public Void visitNewClass(NewClassTree node, Void p) {
            if (node.getClassBody() != null) {
                never("an anonymous class", node);
            }
            called(trees.getElement(getCurrentPath()), node);
            return super.visitNewClass(node, p);
        }

        @Override public Void visitLambdaExpression(LambdaExpressionTree node, Void p) {
            never("a lambda", node);
            return null;
        }

        @Override public Void visitMemberReference(MemberReferenceTree node, Void p) {
            never("a method reference", node);
            return null;
        }

        @Override public Void visitThrow(ThrowTree node, Void p) {
            never("throw", node);
            return null;
        }

        @Override public Void visitTry(TryTree node, Void p) {
            never("try", node);
            return null;
        }

        @Override public Void visitAssert(AssertTree node, Void p) {
            never("assert", node);
            return null;
        }

        @Override public Void visitSynchronized(SynchronizedTree node, Void p) {
            never("synchronized", node);
            return null;
        }

        @Override public Void visitBinary(BinaryTree node, Void p) {
            if (node.getKind() == Tree.Kind.PLUS && trees.getTypeMirror(getCurrentPath()).toString().contains("String")) {
                never("texts joined by +", node);
            }
            boolean same = node.getKind() == Tree.Kind.EQUAL_TO || node.getKind() == Tree.Kind.NOT_EQUAL_TO;
            if (same && typeOf(node.getLeftOperand()).contains("String")) {
                never("rule 6: == between texts", node);
            }
            return super.visitBinary(node, p);
        }

        private String typeOf(Tree tree) {
            return String.valueOf(trees.getTypeMirror(new TreePath(getCurrentPath(), tree)));
        }

        /** Rule 3, as far as the class has a use for it: no double, no float, no list. */
        private static boolean isAllowed(String type) {
            String element = type.endsWith("[][]") ? type.substring(0, type.length() - 4)
                    : type.endsWith("[]") ? type.substring(0, type.length() - 2) : type;
            if (PLAIN.contains(element)) {
                return true;
            }
            return type.equals("java.lang.String") || element.startsWith("SlipCoach") && !type.endsWith("[][]");
        }

        @Override public Void visitImport(com.sun.source.tree.ImportTree node, Void p) {
            String name = node.getQualifiedIdentifier().toString();
            ok("rule 4: import of " + name, !node.isStatic() && IMPORTS.contains(name));
            return super.visitImport(node, p);
        }

        @Override public Void visitVariable(VariableTree node, Void p) {
            String type = String.valueOf(trees.getTypeMirror(getCurrentPath()));
            ok("rule 3: " + type + " " + node.getName(), isAllowed(type));
            return super.visitVariable(node, p);
        }

        @Override public Void visitLiteral(LiteralTree node, Void p) {
            if (node.getValue() instanceof String text) {
                ok("rule 4: the signs of " + text, text.chars().allMatch(c -> c >= 1 && c <= 127));
            }
            ok("rule 3: no double and no float", !(node.getValue() instanceof Double) && !(node.getValue() instanceof Float));
            return super.visitLiteral(node, p);
        }

        @Override public Void visitTypeCast(TypeCastTree node, Void p) {
            ok("rule 6: a cast to " + node.getType(), PLAIN.contains(node.getType().toString()));
            return super.visitTypeCast(node, p);
        }

        @Override public Void visitInstanceOf(InstanceOfTree node, Void p) {
            never("instanceof, which the class has no use for", node);
            return null;
        }

        /** Rule 9: a loop says itself when it ends. */
        private void looped(ExpressionTree condition, Tree node) {
            String text = condition == null ? "true" : condition.toString().replaceAll("[() ]", "");
            if (text.equals("true")) {
                never("rule 9: a loop without an end", node);
            }
        }

        @Override public Void visitForLoop(ForLoopTree node, Void p) {
            looped(node.getCondition(), node);
            return super.visitForLoop(node, p);
        }

        @Override public Void visitWhileLoop(WhileLoopTree node, Void p) {
            looped(node.getCondition(), node);
            return super.visitWhileLoop(node, p);
        }

        @Override public Void visitDoWhileLoop(DoWhileLoopTree node, Void p) {
            looped(node.getCondition(), node);
            return super.visitDoWhileLoop(node, p);
        }

        @Override public Void visitEnhancedForLoop(EnhancedForLoopTree node, Void p) {
            ok("rule 12: for over an array, not over a list", typeOf(node.getExpression()).endsWith("[]"));
            return super.visitEnhancedForLoop(node, p);
        }

        void depths() {
            for (String method : new ArrayList<>(calls.keySet())) {
                int depth = depthOf(method, 0);
                ok("rule 11: calls below " + method + ": " + depth, depth <= DEEPEST);
            }
        }

        private int depthOf(String method, int above) {
            if (above > 50) {
                ok("rule 8: recursion at " + method, false);
                return above;
            }
            Integer old = known.get(method);
            if (old != null) {
                return old;
            }
            int most = 0;
            for (String callee : calls.getOrDefault(method, Set.of())) {
                most = Math.max(most, depthOf(callee, above + 1));
            }
            known.put(method, most + 1);
            return most + 1;
        }
    }
}
