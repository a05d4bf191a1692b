import com.sun.source.tree.AssertTree;
import com.sun.source.tree.BlockTree;
import com.sun.source.tree.ClassTree;
import com.sun.source.tree.CompilationUnitTree;
import com.sun.source.tree.ImportTree;
import com.sun.source.tree.LambdaExpressionTree;
import com.sun.source.tree.LineMap;
import com.sun.source.tree.MemberReferenceTree;
import com.sun.source.tree.MethodInvocationTree;
import com.sun.source.tree.MethodTree;
import com.sun.source.tree.NewArrayTree;
import com.sun.source.tree.NewClassTree;
import com.sun.source.tree.SynchronizedTree;
import com.sun.source.tree.ThrowTree;
import com.sun.source.tree.Tree;
import com.sun.source.tree.TryTree;
import com.sun.source.tree.TypeCastTree;
import com.sun.source.tree.VariableTree;
import com.sun.source.tree.WhileLoopTree;
import com.sun.source.util.JavacTask;
import com.sun.source.util.TreePath;
import com.sun.source.util.TreePathScanner;
import com.sun.source.util.Trees;
import java.nio.file.Files;
import java.nio.file.Path;
import java.util.ArrayList;
import java.util.HashMap;
import java.util.HashSet;
import java.util.LinkedHashMap;
import java.util.LinkedHashSet;
import java.util.List;
import java.util.Map;
import java.util.Set;
import javax.lang.model.element.Element;
import javax.lang.model.element.ExecutableElement;
import javax.lang.model.element.Modifier;
import javax.lang.model.element.TypeElement;
import javax.tools.JavaCompiler;
import javax.tools.StandardJavaFileManager;
import javax.tools.ToolProvider;

/** What of LANGUAGE.md can be told from the source alone. */
public final class LanguageTest extends TreePathScanner<Void, Void> {
    private static final Set<String> LIBRARY = Set.of("java.lang.Math.min", "java.lang.Math.max",
        "java.lang.Integer.bitCount", "java.lang.String.length", "java.lang.String.charAt",
        "java.lang.System.arraycopy", "java.util.Arrays.fill", "java.lang.Object.<init>");

    private final Trees trees;
    private final CompilationUnitTree unit;
    private final Map<Element, Set<Element>> calls = new LinkedHashMap<>();
    private final Map<Element, Integer> depths = new HashMap<>();
    private final Set<Element> open = new HashSet<>();
    private final Set<String> publicNames = new HashSet<>();
    private final List<String> privateNames = new ArrayList<>();
    private Element method;
    private int classes;
    private int wrong;

    private LanguageTest(Trees trees, CompilationUnitTree unit) {
        this.trees = trees;
        this.unit = unit;
    }

    public static void main(String[] args) throws Exception {
        Path path = Path.of("src/main/java/CourtVans.java");
        JavaCompiler javac = ToolProvider.getSystemJavaCompiler();
        try (StandardJavaFileManager files = javac.getStandardFileManager(null, null, null)) {
            JavacTask task = (JavacTask) javac.getTask(null, files, null, List.of("-proc:none"), null, files.getJavaFileObjects(path));
            CompilationUnitTree unit = task.parse().iterator().next();
            task.analyze();
            LanguageTest t = new LanguageTest(Trees.instance(task), unit);
            t.scan(unit, null);
            t.atLast(Files.readString(path));
            System.out.println(t.wrong == 0 ? "the language is kept to" : t.wrong + " breaks of the language");
            if (t.wrong != 0) {
                System.exit(1);
            }
        }
    }

    private void no(Tree at, String why) {
        wrong++;
        LineMap lines = unit.getLineMap();
        long line = at == null ? 0 : lines.getLineNumber(trees.getSourcePositions().getStartPosition(unit, at));
        System.out.println("CourtVans.java, line " + line + ": " + why);
    }

    private void atLast(String source) {
        for (int i = 0; i < source.length(); i++) {
            if (source.charAt(i) > 126) {
                no(null, "rule 4: sign " + (int) source.charAt(i));
            }
        }
        if (classes > 12) {
            no(null, "rule 11: " + classes + " classes");
        }
        for (String name : privateNames) {
            if (publicNames.contains(name)) {
                no(null, "rule 1: a method that isn't public bears the name " + name);
            }
        }
        int deepest = 0;
        for (Element m : calls.keySet()) {
            deepest = Math.max(deepest, depth(m));
        }
        if (deepest > 8) {
            no(null, "rule 11: calls go " + deepest + " deep");
        }
    }

    private int depth(Element m) {
        if (!calls.containsKey(m)) {
            return 0;
        }
        if (depths.containsKey(m)) {
            return depths.get(m);
        }
        if (!open.add(m)) {
            no(null, "rule 8: methods that call one another: " + m);
            return 0;
        }
        int deepest = 0;
        for (Element to : calls.get(m)) {
            deepest = Math.max(deepest, to.equals(m) ? 0 : depth(to));
        }
        open.remove(m);
        depths.put(m, deepest + 1);
        return deepest + 1;
    }

    private Element element() {
        return trees.getElement(getCurrentPath());
    }

    @Override
    public Void visitImport(ImportTree t, Void v) {
        if (!t.getQualifiedIdentifier().toString().equals("java.util.Arrays")) {
            no(t, "rule 4: import");
        }
        return super.visitImport(t, v);
    }

    @Override
    public Void visitClass(ClassTree t, Void v) {
        classes++;
        Element e = element();
        boolean isTop = e.getEnclosingElement().getKind().isClass() ? false : true;
        if (!isTop && !e.getModifiers().contains(Modifier.STATIC)) {
            no(t, "rule 2: a class that isn't static");
        }
        int fields = 0;
        for (Tree m : t.getMembers()) {
            if (m instanceof VariableTree f) {
                Set<Modifier> mods = f.getModifiers().getFlags();
                boolean isStatic = mods.contains(Modifier.STATIC);
                fields += isStatic ? 0 : 1;
                if (isStatic && !mods.contains(Modifier.FINAL)) {
                    no(f, "rule 5: a static field that isn't final");
                }
            } else if (m instanceof BlockTree) {
                no(m, "rule 5: an initialiser block");
            } else if (!(m instanceof MethodTree) && !(m instanceof ClassTree)) {
                no(m, "a member of another sort");
            }
        }
        if (fields > 20) {
            no(t, "rule 11: " + fields + " fields");
        }
        return super.visitClass(t, v);
    }

    @Override
    public Void visitMethod(MethodTree t, Void v) {
        Element before = method;
        method = element();
        calls.put(method, new LinkedHashSet<>());
        (method.getModifiers().contains(Modifier.PUBLIC) ? publicNames : privateNames).add(t.getName().toString());
        if (t.getName().contentEquals("<init>")) {
            privateNames.remove("<init>");
            publicNames.remove("<init>");
        }
        if (t.getParameters().size() > 7) {
            no(t, "rule 11: " + t.getParameters().size() + " parameters");
        }
        long first = unit.getLineMap().getLineNumber(trees.getSourcePositions().getStartPosition(unit, t));
        long last = unit.getLineMap().getLineNumber(trees.getSourcePositions().getEndPosition(unit, t));
        if (last - first + 1 > 60) {
            no(t, "rule 11: a method of " + (last - first + 1) + " lines");
        }
        super.visitMethod(t, v);
        method = before;
        return null;
    }

    @Override
    public Void visitMethodInvocation(MethodInvocationTree t, Void v) {
        Element to = trees.getElement(new TreePath(getCurrentPath(), t.getMethodSelect()));
        seen(t, to);
        return super.visitMethodInvocation(t, v);
    }

    @Override
    public Void visitNewClass(NewClassTree t, Void v) {
        if (t.getClassBody() != null) {
            no(t, "rule 2: an anonymous class");
        }
        if (method != null) {
            no(t, "an object made by a method: the room is told for constructors' alone");
        }
        return super.visitNewClass(t, v);
    }

    @Override
    public Void visitNewArray(NewArrayTree t, Void v) {
        if (method != null && !method.getSimpleName().contentEquals("<init>")) {
            no(t, "an array made by a method: the room is told for constructors' alone");
        }
        return super.visitNewArray(t, v);
    }

    private void seen(Tree t, Element to) {
        if (!(to instanceof ExecutableElement e)) {
            no(t, "a call that isn't found");
            return;
        }
        String owner = ((TypeElement) e.getEnclosingElement()).getQualifiedName().toString();
        if (!owner.startsWith("CourtVans") && !LIBRARY.contains(owner + "." + e.getSimpleName())) {
            no(t, "rule 4: " + owner + "." + e.getSimpleName());
        }
        if (method != null) {
            calls.get(method).add(e);
        }
    }

    @Override
    public Void visitThrow(ThrowTree t, Void v) {
        no(t, "rule 6: throw");
        return super.visitThrow(t, v);
    }

    @Override
    public Void visitTry(TryTree t, Void v) {
        no(t, "rule 6: try");
        return super.visitTry(t, v);
    }

    @Override
    public Void visitSynchronized(SynchronizedTree t, Void v) {
        no(t, "rule 6: synchronized");
        return super.visitSynchronized(t, v);
    }

    @Override
    public Void visitAssert(AssertTree t, Void v) {
        no(t, "rule 6: assert");
        return super.visitAssert(t, v);
    }

    @Override
    public Void visitLambdaExpression(LambdaExpressionTree t, Void v) {
        no(t, "rule 2: lambda");
        return super.visitLambdaExpression(t, v);
    }

    @Override
    public Void visitMemberReference(MemberReferenceTree t, Void v) {
        no(t, "rule 2: method reference");
        return super.visitMemberReference(t, v);
    }

    @Override
    public Void visitWhileLoop(WhileLoopTree t, Void v) {
        no(t, "rule 9: a loop without a counter");
        return super.visitWhileLoop(t, v);
    }

    @Override
    public Void visitTypeCast(TypeCastTree t, Void v) {
        if (t.getType().getKind() != Tree.Kind.PRIMITIVE_TYPE) {
            no(t, "rule 6: a cast of objects");
        }
        return super.visitTypeCast(t, v);
    }
}
