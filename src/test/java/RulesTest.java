import com.sun.source.tree.*;
import com.sun.source.util.JavacTask;
import com.sun.source.util.SourcePositions;
import com.sun.source.util.TreePathScanner;
import com.sun.source.util.Trees;
import java.nio.file.Path;
import java.util.ArrayDeque;
import java.util.Deque;
import java.util.HashMap;
import java.util.HashSet;
import java.util.List;
import java.util.Map;
import java.util.Set;
import java.util.TreeSet;
import javax.lang.model.element.Element;
import javax.lang.model.element.ExecutableElement;
import javax.lang.model.element.Modifier;
import javax.lang.model.type.TypeMirror;
import javax.tools.JavaCompiler;
import javax.tools.StandardJavaFileManager;
import javax.tools.ToolProvider;

/** The rules of LANGUAGE.md, as far as the compiler's own tree of the class shows them. */
public final class RulesTest extends TreePathScanner<Void, Void> {
    private static final Set<String> LIBRARY = Set.of("String.length", "String.charAt", "Math.abs", "Math.min", "Math.max",
        "System.arraycopy");
    private static final int MOST_DEEP = 8;

    private final Trees trees;
    private final CompilationUnitTree unit;
    private final Map<String, Set<String>> calls = new HashMap<>();
    private final Set<String> publicMethods = new TreeSet<>();
    private final Deque<String> methods = new ArrayDeque<>();
    private int classes;

    private RulesTest(Trees trees, CompilationUnitTree unit) {
        this.trees = trees;
        this.unit = unit;
    }

    public static void main(String[] args) throws Exception {
        JavaCompiler compiler = ToolProvider.getSystemJavaCompiler();
        StandardJavaFileManager files = compiler.getStandardFileManager(null, null, null);
        JavacTask task = (JavacTask) compiler.getTask(null, files, null, List.of("-proc:none"), null,
            files.getJavaFileObjects(Path.of("src/main/java/WineSpoon.java")));
        CompilationUnitTree unit = task.parse().iterator().next();
        task.analyze();
        RulesTest rules = new RulesTest(Trees.instance(task), unit);
        rules.scan(unit, null);
        rules.oneFile();
        rules.depth();
        Check.close();
    }

    private static void isTrue(String what, boolean so) {
        Check.isTrue(what, so);
    }

    private String at(Tree tree) {
        SourcePositions places = trees.getSourcePositions();
        return "line " + unit.getLineMap().getLineNumber(places.getStartPosition(unit, tree)) + ": ";
    }

    private void banned(Tree tree) {
        isTrue(at(tree) + tree.getKind() + " is not in the language", false);
    }

    private void oneFile() {
        Check.due("classes in the file", unit.getTypeDecls().size(), 1);
        Check.due("imports", unit.getImports().size(), 0);
        isTrue("no package", unit.getPackageName() == null);
        isTrue("some twelve classes: " + classes, classes <= 12);
    }

    // ---- rules 1, 2, 5, 11: classes, fields, methods

    @Override
    public Void visitClass(ClassTree tree, Void none) {
        classes++;
        isTrue(at(tree) + "no class within a method", methods.isEmpty());
        Element element = trees.getElement(getCurrentPath());
        boolean outer = tree.getSimpleName().contentEquals("WineSpoon");
        isTrue(at(tree) + "a class inside is static", outer || element.getModifiers().contains(Modifier.STATIC));
        int fields = 0;
        for (Tree member : tree.getMembers()) {
            isTrue(at(member) + "no initialiser block", !(member instanceof BlockTree));
            if (member instanceof VariableTree field) {
                fields += field.getModifiers().getFlags().contains(Modifier.STATIC) ? 0 : 1;
                staticField(field);
            }
        }
        isTrue(at(tree) + "some twenty fields: " + fields, fields <= 20);
        return super.visitClass(tree, none);
    }

    private void staticField(VariableTree field) {
        Set<Modifier> flags = field.getModifiers().getFlags();
        if (flags.contains(Modifier.STATIC)) {
            isTrue(at(field) + "static fields are final", flags.contains(Modifier.FINAL));
            isTrue(at(field) + "static fields are constants", Set.of("int", "long", "boolean", "char", "String").contains(field.getType().toString()));
        }
    }

    @Override
    public Void visitMethod(MethodTree tree, Void none) {
        ExecutableElement element = (ExecutableElement) trees.getElement(getCurrentPath());
        String name = nameOf(element);
        calls.put(name, new HashSet<>());
        if (element.getModifiers().contains(Modifier.PUBLIC)) {
            publicMethods.add(name);
        }
        isTrue(at(tree) + "at most seven parameters", tree.getParameters().size() <= 7);
        SourcePositions places = trees.getSourcePositions();
        long first = unit.getLineMap().getLineNumber(Math.max(0, places.getStartPosition(unit, tree)));
        long last = unit.getLineMap().getLineNumber(Math.max(0, places.getEndPosition(unit, tree)));
        isTrue(at(tree) + name + " is short", last - first < 60);
        methods.push(name);
        super.visitMethod(tree, none);
        methods.pop();
        return null;
    }

    private static String nameOf(ExecutableElement element) {
        return element.getEnclosingElement().getSimpleName() + "." + element.getSimpleName();
    }

    // ---- rule 3: types

    @Override
    public Void visitVariable(VariableTree tree, Void none) {
        TypeMirror type = trees.getTypeMirror(getCurrentPath());
        String name = String.valueOf(type);
        boolean own = name.startsWith("WineSpoon");
        String bare = name.replace("[]", "");
        boolean plain = Set.of("int", "long", "boolean", "char", "java.lang.String").contains(bare);
        isTrue(at(tree) + name + " is a type of the language", own || plain);
        isTrue(at(tree) + "one dimension", !name.contains("[][]"));
        return super.visitVariable(tree, none);
    }

    // ---- rules 4, 6: calls

    @Override
    public Void visitMethodInvocation(MethodInvocationTree tree, Void none) {
        Element called = trees.getElement(getCurrentPath());
        if (called instanceof ExecutableElement method) {
            String name = nameOf(method);
            boolean own = String.valueOf(method.getEnclosingElement()).startsWith("WineSpoon");
            boolean made = name.endsWith(".<init>");
            isTrue(at(tree) + name + " is in the library", own || made || LIBRARY.contains(name));
            if (own && !methods.isEmpty()) {
                calls.get(methods.peek()).add(name);
            }
        }
        return super.visitMethodInvocation(tree, none);
    }

    @Override
    public Void visitBinary(BinaryTree tree, Void none) {
        boolean joined = String.valueOf(trees.getTypeMirror(getCurrentPath())).equals("java.lang.String");
        isTrue(at(tree) + "no joining of texts by +", !joined);
        return super.visitBinary(tree, none);
    }

    @Override
    public Void visitNewClass(NewClassTree tree, Void none) {
        isTrue(at(tree) + "no anonymous class", tree.getClassBody() == null);
        isTrue(at(tree) + "own classes alone are made", String.valueOf(trees.getTypeMirror(getCurrentPath())).startsWith("WineSpoon"));
        return super.visitNewClass(tree, none);
    }

    // ---- rule 9: loops

    @Override
    public Void visitForLoop(ForLoopTree tree, Void none) {
        isTrue(at(tree) + "a loop has a bound", tree.getCondition() != null && !tree.getUpdate().isEmpty());
        return super.visitForLoop(tree, none);
    }

    @Override
    public Void visitWhileLoop(WhileLoopTree tree, Void none) {
        isTrue(at(tree) + "a loop without a counter", false);
        return super.visitWhileLoop(tree, none);
    }

    // ---- rules 2, 6: what is not there at all

    @Override
    public Void visitThrow(ThrowTree tree, Void none) {
        banned(tree);
        return null;
    }

    @Override
    public Void visitTry(TryTree tree, Void none) {
        banned(tree);
        return null;
    }

    @Override
    public Void visitSynchronized(SynchronizedTree tree, Void none) {
        banned(tree);
        return null;
    }

    @Override
    public Void visitAssert(AssertTree tree, Void none) {
        banned(tree);
        return null;
    }

    @Override
    public Void visitLambdaExpression(LambdaExpressionTree tree, Void none) {
        banned(tree);
        return null;
    }

    @Override
    public Void visitMemberReference(MemberReferenceTree tree, Void none) {
        banned(tree);
        return null;
    }

    // ---- rule 11: how deep calls go; methods that come back to themselves are recursion and not counted

    private void depth() {
        for (String name : publicMethods) {
            int deep = deepest(name, new HashSet<>());
            isTrue(name + " goes " + deep + " deep", deep <= MOST_DEEP);
        }
    }

    private int deepest(String name, Set<String> open) {
        int most = 0;
        open.add(name);
        for (String next : calls.getOrDefault(name, Set.of())) {
            if (!open.contains(next)) {
                most = Math.max(most, deepest(next, open));
            }
        }
        open.remove(name);
        return most + (reaches(name, name, new HashSet<>()) ? 0 : 1);
    }

    private boolean reaches(String from, String to, Set<String> seen) {
        for (String next : calls.getOrDefault(from, Set.of())) {
            if (next.equals(to) || seen.add(next) && reaches(next, to, seen)) {
                return true;
            }
        }
        return false;
    }
}
