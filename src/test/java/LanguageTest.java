import com.sun.source.tree.ClassTree;
import com.sun.source.tree.CompilationUnitTree;
import com.sun.source.tree.ImportTree;
import com.sun.source.tree.MethodInvocationTree;
import com.sun.source.tree.MethodTree;
import com.sun.source.tree.NewClassTree;
import com.sun.source.tree.Tree;
import com.sun.source.tree.VariableTree;
import com.sun.source.util.JavacTask;
import com.sun.source.util.TreePathScanner;
import com.sun.source.util.Trees;
import java.io.File;
import java.util.ArrayList;
import java.util.HashMap;
import java.util.HashSet;
import java.util.List;
import java.util.Map;
import java.util.Set;
import javax.lang.model.element.Element;
import javax.lang.model.element.ExecutableElement;
import javax.lang.model.element.Modifier;
import javax.lang.model.element.TypeElement;
import javax.tools.JavaCompiler;
import javax.tools.StandardJavaFileManager;
import javax.tools.ToolProvider;

/** The rules of LANGUAGE.md that can be read off the source: its number stands ahead of each. */
public final class LanguageTest {
    private static final Set<Tree.Kind> FORBIDDEN = Set.of(Tree.Kind.THROW, Tree.Kind.TRY, Tree.Kind.CATCH,
            Tree.Kind.SYNCHRONIZED, Tree.Kind.ASSERT, Tree.Kind.LAMBDA_EXPRESSION, Tree.Kind.MEMBER_REFERENCE);
    private static final Set<String> LIBRARY = Set.of("java.lang.Math.max", "java.lang.Math.min",
            "java.lang.String.length", "java.lang.String.charAt", "java.lang.System.arraycopy", "java.util.Arrays.fill",
            "java.lang.Object.<init>");
    private static final int MOST_LINES = 60;
    private static final int MOST_PARAMETERS = 7;
    private static final int MOST_DEPTH = 8;
    private static final int MOST_CLASSES = 12;
    private static final int MOST_FIELDS = 20;

    private static final Map<String, Set<String>> CALLS = new HashMap<>();
    private static final Set<String> PUBLIC = new HashSet<>();
    private static final List<MethodTree> METHODS = new ArrayList<>();
    private static int classes;

    public static void main(String[] args) throws Exception {
        JavaCompiler compiler = ToolProvider.getSystemJavaCompiler();
        StandardJavaFileManager files = compiler.getStandardFileManager(null, null, null);
        File source = new File(System.getProperty("dinghy.source", "src/main/java/OverInDinghy.java"));
        List<String> options = List.of("-proc:none", "--release", "17");
        JavacTask task = (JavacTask) compiler.getTask(null, files, null, options, null, files.getJavaFileObjects(source));
        CompilationUnitTree unit = task.parse().iterator().next();
        task.analyze();
        Trees trees = Trees.instance(task);
        Check.holds("one class in the file", unit.getTypeDecls().size() == 1);
        Check.holds("no package", unit.getPackage() == null);
        for (ImportTree i : unit.getImports()) {
            Check.holds("4: " + i, i.getQualifiedIdentifier().toString().equals("java.util.Arrays"));
        }
        new Scan(trees, unit).scan(unit, null);
        Check.holds("11: classes", classes <= MOST_CLASSES);
        for (MethodTree m : METHODS) {
            String name = m.getName().toString();
            boolean isPublic = m.getModifiers().getFlags().contains(Modifier.PUBLIC);
            Check.holds("1: " + name + " bears a public one's name", isPublic || !PUBLIC.contains(name));
        }
        Check.due("1: methods of the face", PUBLIC.size(), 30);
        for (String method : CALLS.keySet()) {
            List<String> way = longest(method, new ArrayList<>());
            if (way.size() > MOST_DEPTH) {
                Check.holds("11: too deep: " + way, false);
            }
        }
        Check.end();
    }

    private static List<String> longest(String method, List<String> above) {
        List<String> best = List.of();
        List<String> open = new ArrayList<>(above);
        open.add(method);
        for (String called : CALLS.getOrDefault(method, Set.of())) {
            if (!open.contains(called)) {
                List<String> way = longest(called, open);
                best = way.size() > best.size() ? way : best;
            } else {
                Check.holds("8: " + called + " is no method that calls itself alone", called.equals(method));
            }
        }
        List<String> way = new ArrayList<>();
        way.add(method);
        way.addAll(best);
        return way;
    }

    private static final class Scan extends TreePathScanner<Void, Void> {
        private final Trees trees;
        private final CompilationUnitTree unit;
        private String method = "";
        private MethodTree within;

        Scan(Trees trees, CompilationUnitTree unit) {
            this.trees = trees;
            this.unit = unit;
        }

        @Override
        public Void scan(Tree tree, Void nothing) {
            if (tree != null) {
                Check.holds("6: " + tree.getKind() + " at line " + line(tree), !FORBIDDEN.contains(tree.getKind()));
            }
            return super.scan(tree, nothing);
        }

        private long line(Tree tree) {
            return unit.getLineMap().getLineNumber(trees.getSourcePositions().getStartPosition(unit, tree));
        }

        @Override
        public Void visitClass(ClassTree tree, Void nothing) {
            classes++;
            String name = tree.getSimpleName().toString();
            boolean outer = name.equals("OverInDinghy");
            Set<Modifier> flags = tree.getModifiers().getFlags();
            Check.holds("2: " + name + " is static", outer || flags.contains(Modifier.STATIC));
            Check.holds("1: " + name + " is final", flags.contains(Modifier.FINAL));
            int fields = 0;
            for (Tree member : tree.getMembers()) {
                Check.holds("5: no static block", member.getKind() != Tree.Kind.BLOCK);
                if (member instanceof VariableTree) {
                    VariableTree v = (VariableTree) member;
                    Set<Modifier> f = v.getModifiers().getFlags();
                    boolean isStatic = f.contains(Modifier.STATIC);
                    fields += isStatic ? 0 : 1;
                    Check.holds("5: " + v.getName() + " is final", !isStatic || f.contains(Modifier.FINAL));
                    boolean told = Set.of("NONE", "NOT").contains(v.getName().toString());
                    Check.holds("1: " + v.getName(), !outer || told == f.contains(Modifier.PUBLIC)
                            && told != f.contains(Modifier.PRIVATE));
                }
            }
            Check.holds("11: fields of " + name, fields <= MOST_FIELDS);
            return super.visitClass(tree, nothing);
        }

        @Override
        public Void visitMethod(MethodTree tree, Void nothing) {
            TypeElement owner = (TypeElement) trees.getElement(getCurrentPath()).getEnclosingElement();
            boolean outer = owner.getSimpleName().contentEquals("OverInDinghy");
            Set<Modifier> flags = tree.getModifiers().getFlags();
            boolean isPublic = flags.contains(Modifier.PUBLIC);
            String name = owner.getSimpleName() + "." + tree.getName();
            Check.holds("1: " + name, !outer || isPublic || flags.contains(Modifier.PRIVATE));
            Check.holds("11: parameters of " + name, tree.getParameters().size() <= MOST_PARAMETERS);
            long end = trees.getSourcePositions().getEndPosition(unit, tree);
            Check.holds("11: lines of " + name, end < 0
                    || unit.getLineMap().getLineNumber(end) - line(tree) < MOST_LINES);
            if (outer && isPublic && tree.getReturnType() != null) {
                PUBLIC.add(tree.getName().toString());
            }
            METHODS.add(tree);
            method = name;
            within = tree;
            CALLS.putIfAbsent(name, new HashSet<>());
            return super.visitMethod(tree, nothing);
        }

        @Override
        public Void visitMethodInvocation(MethodInvocationTree tree, Void nothing) {
            call(trees.getElement(getCurrentPath()), tree);
            return super.visitMethodInvocation(tree, nothing);
        }

        @Override
        public Void visitNewClass(NewClassTree tree, Void nothing) {
            call(trees.getElement(getCurrentPath()), tree);
            return super.visitNewClass(tree, nothing);
        }

        private void call(Element called, Tree tree) {
            ExecutableElement e = (ExecutableElement) called;
            TypeElement owner = (TypeElement) e.getEnclosingElement();
            String full = owner.getQualifiedName().toString();
            if (!full.startsWith("OverInDinghy")) {
                Check.holds("4: " + full + "." + e.getSimpleName() + " at line " + line(tree),
                        LIBRARY.contains(full + "." + e.getSimpleName()));
                return;
            }
            String name = owner.getSimpleName() + "." + e.getSimpleName();
            if (name.equals(method)) {
                Set<Modifier> flags = within.getModifiers().getFlags();
                Check.holds("8: " + name + " calls itself", flags.contains(Modifier.PRIVATE) && flags.contains(Modifier.STATIC));
            }
            CALLS.computeIfAbsent(method, k -> new HashSet<>()).add(name);
        }
    }
}
