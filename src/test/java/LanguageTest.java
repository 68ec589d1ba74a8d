import com.sun.source.tree.AssertTree;
import com.sun.source.tree.BinaryTree;
import com.sun.source.tree.ClassTree;
import com.sun.source.tree.CompilationUnitTree;
import com.sun.source.tree.ImportTree;
import com.sun.source.tree.LambdaExpressionTree;
import com.sun.source.tree.MemberReferenceTree;
import com.sun.source.tree.MethodInvocationTree;
import com.sun.source.tree.MethodTree;
import com.sun.source.tree.NewArrayTree;
import com.sun.source.tree.NewClassTree;
import com.sun.source.tree.SynchronizedTree;
import com.sun.source.tree.ThrowTree;
import com.sun.source.tree.Tree;
import com.sun.source.tree.TryTree;
import com.sun.source.tree.VariableTree;
import com.sun.source.util.JavacTask;
import com.sun.source.util.TreePath;
import com.sun.source.util.TreePathScanner;
import com.sun.source.util.Trees;
import java.io.File;
import java.util.ArrayList;
import java.util.HashSet;
import java.util.List;
import java.util.Map;
import java.util.Set;
import java.util.TreeMap;
import java.util.TreeSet;
import javax.lang.model.element.Element;
import javax.lang.model.element.ElementKind;
import javax.lang.model.element.Modifier;
import javax.tools.JavaCompiler;
import javax.tools.StandardJavaFileManager;
import javax.tools.ToolProvider;

/**
 * What of ../shared/LANGUAGE.md can be seen in the source: library, static fields, exceptions, sizes, and how
 * deep calls go. Its numbers stand in brackets.
 */
public final class LanguageTest extends TreePathScanner<Void, Void> {
    private static final Check CHECK = new Check();
    private static final Set<String> LIBRARY = Set.of("java.lang.Math.abs", "java.lang.Math.max", "java.lang.Math.min",
        "java.lang.Integer.bitCount", "java.lang.String.charAt", "java.lang.String.indexOf",
        "java.lang.System.arraycopy");
    private static final Set<String> EXCEPTIONS = Set.of("IllegalArgumentException", "NoSuchElementException");
    private static final int DEEPEST = 8;

    private final Trees trees;
    private final CompilationUnitTree unit;
    private final Map<String, Set<String>> calls = new TreeMap<>();
    private final Set<String> face = new HashSet<>();
    private final List<MethodTree> methods = new ArrayList<>();
    private int classes;
    private String method = "";
    private boolean inConstructor;

    private LanguageTest(Trees trees, CompilationUnitTree unit) {
        this.trees = trees;
        this.unit = unit;
    }

    public static void main(String[] args) throws Exception {
        JavaCompiler compiler = ToolProvider.getSystemJavaCompiler();
        try (StandardJavaFileManager files = compiler.getStandardFileManager(null, null, null)) {
            File source = new File("src/main/java/SockFair.java");
            JavacTask task = (JavacTask) compiler.getTask(null, files, null, List.of("-proc:none"), null,
                files.getJavaFileObjects(source));
            CompilationUnitTree unit = task.parse().iterator().next();
            task.analyze();
            LanguageTest test = new LanguageTest(Trees.instance(task), unit);
            test.scan(unit, null);
            test.closing();
        }
        CHECK.end("LanguageTest");
    }

    private void rule(String what, Tree where, boolean holds) {
        long line = unit.getLineMap().getLineNumber(start(where));
        CHECK.same("line " + line + ": " + what, holds, true);
    }

    private long start(Tree tree) {
        return trees.getSourcePositions().getStartPosition(unit, tree);
    }

    private int lines(Tree tree) {
        long end = trees.getSourcePositions().getEndPosition(unit, tree);
        return (int) (unit.getLineMap().getLineNumber(end) - unit.getLineMap().getLineNumber(start(tree)) + 1);
    }

    private Element element() {
        return trees.getElement(getCurrentPath());
    }

    @Override
    public Void visitImport(ImportTree tree, Void v) {
        rule("[4] import " + tree.getQualifiedIdentifier(), tree,
            tree.getQualifiedIdentifier().toString().equals("java.util.NoSuchElementException"));
        return super.visitImport(tree, v);
    }

    @Override
    public Void visitClass(ClassTree tree, Void v) {
        classes++;
        int fields = 0;
        for (Tree member : tree.getMembers()) {
            if (member instanceof VariableTree field) {
                boolean isStatic = field.getModifiers().getFlags().contains(Modifier.STATIC);
                boolean isFinal = field.getModifiers().getFlags().contains(Modifier.FINAL);
                String type = field.getType().toString();
                rule("[5] static field " + field.getName(), field,
                    !isStatic || isFinal && Set.of("int", "long", "boolean", "char", "String").contains(type));
                fields += isStatic ? 0 : 1;
            }
            rule("[5] no initialiser block", member, member.getKind() != Tree.Kind.BLOCK);
        }
        rule("[11] some twenty fields in " + tree.getSimpleName() + ", not " + fields, tree, fields <= 20);
        return super.visitClass(tree, v);
    }

    @Override
    public Void visitMethod(MethodTree tree, Void v) {
        Element here = element();
        method = here.getEnclosingElement().getSimpleName() + "." + here.getSimpleName();
        inConstructor = here.getKind() == ElementKind.CONSTRUCTOR;
        calls.computeIfAbsent(method, k -> new TreeSet<>());
        methods.add(tree);
        if (here.getModifiers().contains(Modifier.PUBLIC) && !inConstructor) {
            face.add(here.getSimpleName().toString());
        }
        rule("[11] parameters of " + method, tree, tree.getParameters().size() <= 7);
        rule("[11] lines of " + method, tree, lines(tree) <= 60);
        Void result = super.visitMethod(tree, v);
        method = "";
        return result;
    }

    @Override
    public Void visitMethodInvocation(MethodInvocationTree tree, Void v) {
        Element called = trees.getElement(new TreePath(getCurrentPath(), tree.getMethodSelect()));
        note(called, tree);
        return super.visitMethodInvocation(tree, v);
    }

    private void note(Element called, Tree tree) {
        String owner = called.getEnclosingElement().toString();
        if (owner.startsWith("SockFair")) {
            calls.get(method).add(called.getEnclosingElement().getSimpleName() + "." + called.getSimpleName());
        } else if (called.getKind() != ElementKind.CONSTRUCTOR) {
            rule("[4] library: " + owner + "." + called.getSimpleName(), tree,
                LIBRARY.contains(owner + "." + called.getSimpleName()));
        }
    }

    @Override
    public Void visitNewClass(NewClassTree tree, Void v) {
        String name = tree.getIdentifier().toString();
        boolean thrown = getCurrentPath().getParentPath().getLeaf() instanceof ThrowTree;
        rule("[4, 6] new " + name, tree, thrown ? EXCEPTIONS.contains(name)
            : element().getEnclosingElement().toString().startsWith("SockFair"));
        rule("[12] rows and objects are made in constructors", tree, thrown || inConstructor);
        note(element(), tree);
        return super.visitNewClass(tree, v);
    }

    @Override
    public Void visitNewArray(NewArrayTree tree, Void v) {
        rule("[12] rows are made in constructors", tree, inConstructor);
        return super.visitNewArray(tree, v);
    }

    @Override
    public Void visitThrow(ThrowTree tree, Void v) {
        rule("[6] throw new, not in a constructor", tree,
            tree.getExpression() instanceof NewClassTree && !inConstructor);
        return super.visitThrow(tree, v);
    }

    @Override
    public Void visitBinary(BinaryTree tree, Void v) {
        String type = String.valueOf(trees.getTypeMirror(getCurrentPath()));
        rule("[3, 10] no text by +, no double", tree, Set.of("int", "long", "boolean").contains(type)
            || type.matches("-?[0-9]+|true|false"));
        return super.visitBinary(tree, v);
    }

    @Override
    public Void visitLambdaExpression(LambdaExpressionTree tree, Void v) {
        rule("[2] no lambda", tree, false);
        return null;
    }

    @Override
    public Void visitMemberReference(MemberReferenceTree tree, Void v) {
        rule("[2] no method reference", tree, false);
        return null;
    }

    @Override
    public Void visitTry(TryTree tree, Void v) {
        rule("no try is needed", tree, false);
        return null;
    }

    @Override
    public Void visitSynchronized(SynchronizedTree tree, Void v) {
        rule("[6] no synchronized", tree, false);
        return null;
    }

    @Override
    public Void visitAssert(AssertTree tree, Void v) {
        rule("[6] no assert", tree, false);
        return null;
    }

    private void closing() {
        CHECK.same("[11] some twelve classes, not " + classes, classes <= 12, true);
        for (MethodTree m : methods) {
            boolean isPublic = m.getModifiers().getFlags().contains(Modifier.PUBLIC);
            rule("[1] " + m.getName() + " bears a name of the face", m, isPublic || !face.contains(m.getName().toString()));
        }
        // A chain of calls, in which no method comes twice: a recursion counts as deep as its methods are.
        int deepest = 0;
        for (String from : calls.keySet()) {
            List<String> chain = deepestFrom(from, new ArrayList<>());
            if (chain.size() > deepest) {
                deepest = chain.size();
                System.out.println("LanguageTest: " + deepest + " deep: " + String.join(" > ", chain));
            }
        }
        CHECK.same("[11] calls go at most " + DEEPEST + " deep", deepest <= DEEPEST, true);
    }

    private List<String> deepestFrom(String from, List<String> ahead) {
        List<String> chain = new ArrayList<>(ahead);
        chain.add(from);
        List<String> deepest = chain;
        for (String to : calls.getOrDefault(from, Set.of())) {
            if (!chain.contains(to)) {
                List<String> further = deepestFrom(to, chain);
                deepest = further.size() > deepest.size() ? further : deepest;
            }
        }
        return deepest;
    }
}
