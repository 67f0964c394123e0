import com.sun.source.tree.AssertTree;
import com.sun.source.tree.ClassTree;
import com.sun.source.tree.CompilationUnitTree;
import com.sun.source.tree.LambdaExpressionTree;
import com.sun.source.tree.LineMap;
import com.sun.source.tree.MemberReferenceTree;
import com.sun.source.tree.MethodInvocationTree;
import com.sun.source.tree.MethodTree;
import com.sun.source.tree.NewArrayTree;
import com.sun.source.tree.NewClassTree;
import com.sun.source.tree.SynchronizedTree;
import com.sun.source.tree.ThrowTree;
import com.sun.source.tree.Tree;
import com.sun.source.tree.TryTree;
import com.sun.source.tree.VariableTree;
import com.sun.source.util.JavacTask;
import com.sun.source.util.TreePath;
import com.sun.source.util.TreePathScanner;
import com.sun.source.util.Trees;
import java.io.IOException;
import java.nio.file.Files;
import java.nio.file.Path;
import java.util.HashMap;
import java.util.HashSet;
import java.util.List;
import java.util.Map;
import java.util.Set;
import java.util.TreeSet;
import javax.lang.model.element.Element;
import javax.lang.model.element.ExecutableElement;
import javax.lang.model.element.Modifier;
import javax.lang.model.element.TypeElement;
import javax.tools.JavaCompiler;
import javax.tools.StandardJavaFileManager;
import javax.tools.ToolProvider;

/** What a look at the source can tell of the rules of LANGUAGE.md; each check names its rule. */
final class LanguageTest extends TreePathScanner<Void, Void> {
    private static final String SOURCE = "src/main/java/RevealDeck.java";
    private static final Set<String> LIBRARY = Set.of("java.lang.Math.max", "java.lang.Math.min", "java.lang.System.arraycopy", "java.lang.Object.<init>");

    private final Check c = new Check("LanguageTest");
    private final Trees trees;
    private final CompilationUnitTree unit;
    private final Map<Element, Set<Element>> calls = new HashMap<>();
    private final Set<String> faceNames = new HashSet<>();
    private final Set<String> otherNames = new TreeSet<>();
    private int classes = 0;

    private LanguageTest(Trees trees, CompilationUnitTree unit) {
        this.trees = trees;
        this.unit = unit;
    }

    public static void main(String[] args) throws IOException {
        JavaCompiler compiler = ToolProvider.getSystemJavaCompiler();
        StandardJavaFileManager files = compiler.getStandardFileManager(null, null, null);
        JavacTask task = (JavacTask) compiler.getTask(null, files, null, List.of("-proc:none"), null, files.getJavaFileObjects(SOURCE));
        CompilationUnitTree unit = task.parse().iterator().next();
        task.analyze();
        LanguageTest test = new LanguageTest(Trees.instance(task), unit);
        test.check("a sign of the source is 1 to 127 (4)", Files.readString(Path.of(SOURCE)).chars().allMatch(sign -> sign >= 1 && sign <= 127));
        test.scan(unit, null);
        test.checkAll();
        test.c.end();
    }

    private void check(String rule, boolean isKept) {
        c.same(rule + " (1 for yes)", 1, isKept ? 1 : 0);
    }

    private void checkAll() {
        check("no package (1)", unit.getPackage() == null);
        check("no import (4)", unit.getImports().isEmpty());
        check("one class in the file beside those inside it (1)", unit.getTypeDecls().size() == 1);
        check("at most twelve classes (11)", classes <= 12);
        otherNames.retainAll(faceNames);
        check("no other method bears a name of the face (1): " + otherNames, otherNames.isEmpty());
        for (Element method : calls.keySet()) {
            String name = where(method);
            check("calls at most eight deep, none in a circle (8, 11): " + name, depth(method, 1) <= 8);
        }
    }

    /** How many methods stand open at the most, if so many do with this one; a circle is cut at 9. */
    private int depth(Element method, int open) {
        int most = open;
        for (Element called : calls.getOrDefault(method, Set.of())) {
            most = Math.max(most, open < 9 ? depth(called, open + 1) : open);
        }
        return most;
    }

    private static String where(Element element) {
        return element.getEnclosingElement() + "." + element.getSimpleName();
    }

    /** The method around this place, null if it is in no method. */
    private MethodTree around() {
        for (TreePath path = getCurrentPath(); path != null; path = path.getParentPath()) {
            if (path.getLeaf() instanceof MethodTree method) {
                return method;
            }
        }
        return null;
    }

    @Override
    public Void visitClass(ClassTree tree, Void none) {
        classes++;
        Element element = trees.getElement(getCurrentPath());
        boolean isInside = element.getEnclosingElement() instanceof TypeElement;
        check("a class inside is static and not public (1, 2): " + element, !isInside || (element.getModifiers().contains(Modifier.STATIC) && !element.getModifiers().contains(Modifier.PUBLIC) && !element.getModifiers().contains(Modifier.PROTECTED)));
        long fields = tree.getMembers().stream().filter(member -> member instanceof VariableTree field && !field.getModifiers().getFlags().contains(Modifier.STATIC)).count();
        check("some twenty fields at most (11): " + element, fields <= 20);
        return super.visitClass(tree, none);
    }

    @Override
    public Void visitVariable(VariableTree tree, Void none) {
        Set<Modifier> flags = tree.getModifiers().getFlags();
        check("a static field is final (5): " + tree.getName(), !flags.contains(Modifier.STATIC) || flags.contains(Modifier.FINAL));
        return super.visitVariable(tree, none);
    }

    @Override
    public Void visitMethod(MethodTree tree, Void none) {
        Element element = trees.getElement(getCurrentPath());
        calls.computeIfAbsent(element, key -> new HashSet<>());
        boolean isFace = element.getModifiers().contains(Modifier.PUBLIC);
        (isFace ? faceNames : otherNames).add(tree.getName().toString());
        otherNames.remove("<init>");
        LineMap lines = unit.getLineMap();
        long first = lines.getLineNumber(trees.getSourcePositions().getStartPosition(unit, tree));
        long end = trees.getSourcePositions().getEndPosition(unit, tree);
        boolean isWritten = end > 0 || !tree.getName().contentEquals("<init>");
        check("a method of some sixty lines at most (11): " + tree.getName(), !isWritten || lines.getLineNumber(end) - first < 60);
        check("seven parameters at most (11): " + tree.getName(), tree.getParameters().size() <= 7);
        check("no equals, hashCode or toString (6): " + tree.getName(), !Set.of("equals", "hashCode", "toString").contains(tree.getName().toString()));
        return super.visitMethod(tree, none);
    }

    @Override
    public Void visitMethodInvocation(MethodInvocationTree tree, Void none) {
        called(trees.getElement(new TreePath(getCurrentPath(), tree.getMethodSelect())));
        return super.visitMethodInvocation(tree, none);
    }

    private void called(Element element) {
        String name = where(element);
        boolean isOwn = name.startsWith("RevealDeck");
        check("from the library only what is listed (4): " + name, isOwn || LIBRARY.contains(name));
        if (isOwn && around() != null && element instanceof ExecutableElement) {
            calls.computeIfAbsent(trees.getElement(trees.getPath(unit, around())), key -> new HashSet<>()).add(element);
        }
    }

    /** Rule 12 would let a call make objects; that none does keeps each run far from filling its room. */
    private void made(Tree tree) {
        MethodTree method = around();
        check("an object is made by constructors alone (12): " + tree, method == null || method.getName().contentEquals("<init>"));
    }

    @Override
    public Void visitNewClass(NewClassTree tree, Void none) {
        made(tree);
        called(trees.getElement(getCurrentPath()));
        return super.visitNewClass(tree, none);
    }

    @Override
    public Void visitNewArray(NewArrayTree tree, Void none) {
        made(tree);
        return super.visitNewArray(tree, none);
    }

    private Void refused(String what) {
        check("no " + what, false);
        return null;
    }

    @Override
    public Void visitThrow(ThrowTree tree, Void none) {
        return refused("throw: the document asks for no exception (6)");
    }

    @Override
    public Void visitTry(TryTree tree, Void none) {
        return refused("try: nothing throws (6)");
    }

    @Override
    public Void visitLambdaExpression(LambdaExpressionTree tree, Void none) {
        return refused("lambda (2)");
    }

    @Override
    public Void visitMemberReference(MemberReferenceTree tree, Void none) {
        return refused("method reference (2)");
    }

    @Override
    public Void visitSynchronized(SynchronizedTree tree, Void none) {
        return refused("synchronized (6)");
    }

    @Override
    public Void visitAssert(AssertTree tree, Void none) {
        return refused("assert (6)");
    }
}
