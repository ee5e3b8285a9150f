import com.sun.source.tree.AssertTree;
import com.sun.source.tree.BinaryTree;
import com.sun.source.tree.ClassTree;
import com.sun.source.tree.CompilationUnitTree;
import com.sun.source.tree.LambdaExpressionTree;
import com.sun.source.tree.MemberReferenceTree;
import com.sun.source.tree.MethodInvocationTree;
import com.sun.source.tree.MethodTree;
import com.sun.source.tree.NewClassTree;
import com.sun.source.tree.SynchronizedTree;
import com.sun.source.tree.ThrowTree;
import com.sun.source.tree.Tree;
import com.sun.source.tree.TryTree;
import com.sun.source.tree.VariableTree;
import com.sun.source.util.JavacTask;
import com.sun.source.util.TreePathScanner;
import com.sun.source.util.Trees;
import java.io.File;
import java.util.ArrayList;
import java.util.Arrays;
import java.util.HashMap;
import java.util.HashSet;
import java.util.List;
import java.util.Map;
import java.util.Set;
import java.util.TreeSet;
import javax.lang.model.element.Element;
import javax.lang.model.element.ElementKind;
import javax.lang.model.element.ExecutableElement;
import javax.lang.model.element.Modifier;
import javax.tools.JavaCompiler;
import javax.tools.JavaFileObject;
import javax.tools.StandardJavaFileManager;
import javax.tools.ToolProvider;

/** Holds the class against LANGUAGE.md as far as that can be seen by its tree, and against the document's face. */
public final class LanguageTest extends TreePathScanner<Void, Void> {
    private static final Set<String> FACE = new TreeSet<>(Arrays.asList("feed", "back", "read", "place", "deal", "hands",
            "lead", "hand", "turn", "may", "play", "revoke", "undo", "card", "tricks", "winner", "says", "canBe", "had",
            "sure", "after", "knows", "revokes", "open", "line", "mean", "choice", "spread", "safe", "loss", "differs",
            "lies", "worth", "gain", "bestSet", "book", "kept", "told", "openings", "quarrel", "gap", "hold", "restore",
            "count"));
    private static final Set<String> LIBRARY = new HashSet<>(Arrays.asList("java.lang.String.length",
            "java.lang.String.charAt", "java.lang.Integer.bitCount", "java.lang.Integer.numberOfTrailingZeros",
            "java.lang.Integer.numberOfLeadingZeros", "java.lang.Math.max", "java.lang.Math.min", "java.util.Arrays.fill"));

    private final Trees trees;
    private CompilationUnitTree unit;
    private ExecutableElement method;
    private final Map<ExecutableElement, Set<ExecutableElement>> calls = new HashMap<>();
    private final Set<String> made = new TreeSet<>();
    private int classes;

    private LanguageTest(Trees trees) {
        this.trees = trees;
    }

    public static void main(String[] args) throws Exception {
        JavaCompiler compiler = ToolProvider.getSystemJavaCompiler();
        StandardJavaFileManager files = compiler.getStandardFileManager(null, null, null);
        Iterable<? extends JavaFileObject> source = files.getJavaFileObjects(new File("src/main/java/SignalTable.java"));
        JavacTask task = (JavacTask) compiler.getTask(null, files, null, Arrays.asList("-proc:none"), null, source);
        List<CompilationUnitTree> units = new ArrayList<>();
        task.parse().forEach(units::add);
        task.analyze();
        LanguageTest test = new LanguageTest(Trees.instance(task));
        for (CompilationUnitTree each : units) {
            test.unit = each;
            test.scan(each, null);
        }
        test.close();
        Check.end("LanguageTest");
    }

    private void close() {
        Check.due("classes: " + classes, classes <= 12, true);
        Check.due("public methods " + made, made.equals(FACE), true);
        for (ExecutableElement m : calls.keySet()) {
            int deep = depth(m, new ArrayList<>());
            Check.due("calls that are no recursion go at most eight deep, from " + m + " " + deep, deep <= 8, true);
        }
    }

    /** The longest chain of calls from here, in which methods that call one another count once. */
    private int depth(ExecutableElement m, List<ExecutableElement> open) {
        open.add(m);
        int most = 0;
        for (ExecutableElement next : calls.getOrDefault(m, new HashSet<>())) {
            if (!open.contains(next) && calls.containsKey(next)) {
                int step = reaches(next, m, new HashSet<>()) ? 0 : 1;
                most = Math.max(most, depth(next, open) - (1 - step));
            }
        }
        open.remove(open.size() - 1);
        return most + 1;
    }

    private boolean reaches(ExecutableElement from, ExecutableElement to, Set<ExecutableElement> seen) {
        if (from.equals(to)) {
            return true;
        }
        for (ExecutableElement next : calls.getOrDefault(from, new HashSet<>())) {
            if (seen.add(next) && reaches(next, to, seen)) {
                return true;
            }
        }
        return false;
    }

    private long lineOf(long position) {
        return unit.getLineMap().getLineNumber(position);
    }

    private void never(String what, Tree tree) {
        long at = lineOf(trees.getSourcePositions().getStartPosition(unit, tree));
        Check.due("line " + at + ": " + what, 1, 0);
    }

    @Override
    public Void visitClass(ClassTree tree, Void none) {
        classes++;
        Element element = trees.getElement(getCurrentPath());
        boolean top = element.getEnclosingElement().getKind() == ElementKind.PACKAGE;
        Set<Modifier> modifiers = element.getModifiers();
        boolean well = top ? modifiers.contains(Modifier.PUBLIC) && modifiers.contains(Modifier.FINAL)
                : modifiers.contains(Modifier.STATIC) && element.getEnclosingElement().getKind() == ElementKind.CLASS;
        Check.due("class " + tree.getSimpleName(), well, true);
        int fields = 0;
        for (Tree member : tree.getMembers()) {
            if (member instanceof VariableTree) {
                VariableTree field = (VariableTree) member;
                boolean fixed = field.getModifiers().getFlags().contains(Modifier.STATIC);
                fields += fixed ? 0 : 1;
                Check.due("static " + field.getName() + " is final",
                        !fixed || field.getModifiers().getFlags().contains(Modifier.FINAL), true);
                if (top) {
                    boolean shown = !field.getModifiers().getFlags().contains(Modifier.PRIVATE);
                    Check.due("field " + field.getName(), !shown || field.getName().contentEquals("NONE"), true);
                }
            }
            if (member.getKind() == Tree.Kind.BLOCK) {
                never("an initialiser block", member);
            }
        }
        Check.due(tree.getSimpleName() + " has " + fields + " fields", fields <= 20, true);
        return super.visitClass(tree, none);
    }

    @Override
    public Void visitMethod(MethodTree tree, Void none) {
        ExecutableElement before = method;
        method = (ExecutableElement) trees.getElement(getCurrentPath());
        calls.putIfAbsent(method, new HashSet<>());
        String name = tree.getName().toString();
        boolean top = method.getEnclosingElement().getEnclosingElement().getKind() == ElementKind.PACKAGE;
        boolean shown = !method.getModifiers().contains(Modifier.PRIVATE);
        if (top && shown && !name.equals("<init>")) {
            made.add(name);
        } else {
            Check.due("method " + name + " bears a public name", FACE.contains(name), false);
        }
        Check.due(name + "'s parameters", tree.getParameters().size() <= 7, true);
        long start = lineOf(trees.getSourcePositions().getStartPosition(unit, tree));
        long end = lineOf(trees.getSourcePositions().getEndPosition(unit, tree));
        Check.due(name + " has " + (end - start + 1) + " lines", end - start < 60, true);
        super.visitMethod(tree, none);
        method = before;
        return null;
    }

    @Override
    public Void visitMethodInvocation(MethodInvocationTree tree, Void none) {
        Element called = trees.getElement(getCurrentPath());
        if (called instanceof ExecutableElement) {
            String owner = called.getEnclosingElement().toString();
            if (!owner.startsWith("SignalTable")) {
                String name = owner + "." + called.getSimpleName();
                if (!LIBRARY.contains(name) && !name.equals("java.lang.Object.<init>")) {
                    never("library method " + name, tree);
                }
            } else if (method != null) {
                calls.get(method).add((ExecutableElement) called);
            }
        }
        return super.visitMethodInvocation(tree, none);
    }

    @Override
    public Void visitNewClass(NewClassTree tree, Void none) {
        if (tree.getClassBody() != null) {
            never("an anonymous class", tree);
        }
        return super.visitNewClass(tree, none);
    }

    @Override
    public Void visitBinary(BinaryTree tree, Void none) {
        if (tree.getKind() == Tree.Kind.PLUS
                && trees.getTypeMirror(getCurrentPath()).toString().equals("java.lang.String")) {
            never("texts joined by +", tree);
        }
        return super.visitBinary(tree, none);
    }

    @Override
    public Void visitLambdaExpression(LambdaExpressionTree tree, Void none) {
        never("a lambda", tree);
        return null;
    }

    @Override
    public Void visitMemberReference(MemberReferenceTree tree, Void none) {
        never("a method reference", tree);
        return null;
    }

    @Override
    public Void visitThrow(ThrowTree tree, Void none) {
        never("throw", tree);
        return null;
    }

    @Override
    public Void visitTry(TryTree tree, Void none) {
        never("try", tree);
        return null;
    }

    @Override
    public Void visitSynchronized(SynchronizedTree tree, Void none) {
        never("synchronized", tree);
        return null;
    }

    @Override
    public Void visitAssert(AssertTree tree, Void none) {
        never("assert", tree);
        return null;
    }
}
