import com.sun.source.tree.ClassTree;
import com.sun.source.tree.CompilationUnitTree;
import com.sun.source.tree.LineMap;
import com.sun.source.tree.MethodInvocationTree;
import com.sun.source.tree.MethodTree;
import com.sun.source.tree.Tree;
import com.sun.source.tree.VariableTree;
import com.sun.source.util.JavacTask;
import com.sun.source.util.TreePathScanner;
import com.sun.source.util.Trees;
import java.io.IOException;
import java.nio.file.Files;
import java.nio.file.Path;
import java.util.List;
import java.util.Map;
import java.util.Set;
import java.util.TreeMap;
import java.util.TreeSet;
import javax.lang.model.element.Element;
import javax.lang.model.element.Modifier;
import javax.tools.JavaCompiler;
import javax.tools.StandardJavaFileManager;
import javax.tools.ToolProvider;

/** Rules of LANGUAGE.md, read off the class as the compiler reads it; run from the project's root. */
public final class LanguageTest {
    private static final Due DUE = new Due("LanguageTest");
    private static final Path SOURCE = Path.of("src/main/java/LiveViews.java");

    private static final Set<String> FACE = Set.of("write", "remove", "drop", "conflict", "refresh",
        "commit", "sync", "crash", "open", "close", "get", "number", "at", "find", "match",
        "segments", "segment", "told");

    private static final Set<String> LIBRARY = Set.of("java.lang.Integer.bitCount",
        "java.lang.System.arraycopy", "java.lang.Object.<init>");

    /** Beside what the rules bar: what could throw or go on without end, and is not needed here. */
    private static final Set<Tree.Kind> BARRED = Set.of(Tree.Kind.THROW, Tree.Kind.TRY,
        Tree.Kind.CATCH, Tree.Kind.SYNCHRONIZED, Tree.Kind.ASSERT, Tree.Kind.LAMBDA_EXPRESSION,
        Tree.Kind.MEMBER_REFERENCE, Tree.Kind.IMPORT, Tree.Kind.PACKAGE, Tree.Kind.TYPE_CAST,
        Tree.Kind.INSTANCE_OF, Tree.Kind.DIVIDE, Tree.Kind.REMAINDER, Tree.Kind.DIVIDE_ASSIGNMENT,
        Tree.Kind.REMAINDER_ASSIGNMENT, Tree.Kind.WHILE_LOOP, Tree.Kind.DO_WHILE_LOOP);

    private static final int MOST_PARAMETERS = 7;
    private static final int MOST_LINES = 60;
    private static final int MOST_DEEP = 8;
    private static final int MOST_CLASSES = 12;
    private static final int MOST_FIELDS = 20;

    public static void main(String[] args) throws IOException {
        characters();
        JavaCompiler compiler = ToolProvider.getSystemJavaCompiler();
        try (StandardJavaFileManager files = compiler.getStandardFileManager(null, null, null)) {
            JavacTask task = (JavacTask) compiler.getTask(null, files, null,
                List.of("--release", "17"), null, files.getJavaFileObjects(SOURCE));
            for (CompilationUnitTree unit : task.parse()) {
                task.analyze();
                Reader reader = new Reader(unit, Trees.instance(task));
                reader.scan(unit, null);
                counts(reader);
            }
        }
        DUE.end();
    }

    private static void characters() throws IOException {
        DUE.to("rule 3: characters 0 to 255 alone");
        DUE.holds("the text", Files.readString(SOURCE).chars().allMatch(c -> c < 256));
    }

    private static void counts(Reader reader) {
        DUE.to("rule 11: the file has at most some twelve classes");
        DUE.holds(reader.classes + " classes", reader.classes <= MOST_CLASSES);
        DUE.to("rule 11: calls that are no recursion go at most eight deep");
        DUE.holds("all calls are read", reader.calls.keySet().containsAll(
            Set.of("LiveViews.crash", "LiveViews.refreshLatest", "LiveViews.State.copyFrom")));
        for (String method : reader.calls.keySet()) {
            int deep = depth(reader.calls, method, 0);
            DUE.holds(method + " goes " + deep + " deep", deep <= MOST_DEEP);
        }
    }

    /** A method that comes back to itself would go deeper than any that does not. */
    private static int depth(Map<String, Set<String>> calls, String method, int open) {
        int deepest = 0;
        if (open <= MOST_DEEP) {
            for (String called : calls.getOrDefault(method, Set.of())) {
                deepest = Math.max(deepest, depth(calls, called, open + 1));
            }
        }
        return deepest + 1;
    }

    /** Walks through the whole file; what is called by which method is kept. */
    private static final class Reader extends TreePathScanner<Void, Void> {
        private final CompilationUnitTree unit;
        private final Trees trees;
        private final Map<String, Set<String>> calls = new TreeMap<>();
        private String within = "";
        private int classes = 0;

        Reader(CompilationUnitTree unit, Trees trees) {
            this.unit = unit;
            this.trees = trees;
        }

        private static String nameOf(Element element) {
            return element.getEnclosingElement() + "." + element.getSimpleName();
        }

        private static boolean isStatic(VariableTree field) {
            return field.getModifiers().getFlags().contains(Modifier.STATIC);
        }

        private int linesOf(Tree tree) {
            long first = trees.getSourcePositions().getStartPosition(unit, tree);
            long last = trees.getSourcePositions().getEndPosition(unit, tree);
            LineMap lines = unit.getLineMap();
            return (int) (lines.getLineNumber(last) - lines.getLineNumber(first)) + 1;
        }

        @Override
        public Void scan(Tree tree, Void nothing) {
            if (tree != null && BARRED.contains(tree.getKind())) {
                DUE.to("rules 2, 4, 6, 7, 9");
                DUE.holds("without " + tree.getKind() + " (" + tree + ")", false);
            }
            return super.scan(tree, nothing);
        }

        @Override
        public Void visitClass(ClassTree tree, Void nothing) {
            classes++;
            Set<Modifier> modifiers = tree.getModifiers().getFlags();
            boolean isOuter = getCurrentPath().getParentPath().getLeaf() == unit;
            DUE.to("rules 1 and 2: one public final class, and static ones inside it");
            DUE.holds("class " + tree.getSimpleName(), modifiers.contains(Modifier.FINAL)
                && modifiers.contains(isOuter ? Modifier.PUBLIC : Modifier.STATIC));
            DUE.to("rule 5: no static initialiser block");
            DUE.holds("class " + tree.getSimpleName(), tree.getMembers().stream().noneMatch(member ->
                member.getKind() == Tree.Kind.BLOCK));
            long fields = tree.getMembers().stream().filter(member ->
                member instanceof VariableTree field && !isStatic(field)).count();
            DUE.to("rule 11: a class has some twenty fields beside its constants");
            DUE.holds(tree.getSimpleName() + " has " + fields, fields <= MOST_FIELDS);
            return super.visitClass(tree, nothing);
        }

        @Override
        public Void visitVariable(VariableTree tree, Void nothing) {
            DUE.to("rule 5: static fields are final");
            DUE.holds("" + tree,
                !isStatic(tree) || tree.getModifiers().getFlags().contains(Modifier.FINAL));
            return super.visitVariable(tree, nothing);
        }

        @Override
        public Void visitMethod(MethodTree tree, Void nothing) {
            within = nameOf(trees.getElement(getCurrentPath()));
            calls.computeIfAbsent(within, caller -> new TreeSet<>());
            boolean isPublic = tree.getModifiers().getFlags().contains(Modifier.PUBLIC);
            DUE.to("rule 1: no private method bears the name of a public one");
            DUE.holds(within, isPublic || !FACE.contains(tree.getName().toString()));
            DUE.to("rule 11: at most seven parameters, some sixty lines");
            DUE.holds(within, tree.getParameters().size() <= MOST_PARAMETERS);
            DUE.holds(within, linesOf(tree) <= MOST_LINES);
            return super.visitMethod(tree, nothing);
        }

        @Override
        public Void visitMethodInvocation(MethodInvocationTree tree, Void nothing) {
            String called = nameOf(trees.getElement(getCurrentPath()));
            DUE.to("rule 4: the library: only what stands here");
            DUE.holds(within + " calls " + called,
                called.startsWith("LiveViews.") || LIBRARY.contains(called));
            calls.computeIfAbsent(within, caller -> new TreeSet<>()).add(called);
            return super.visitMethodInvocation(tree, nothing);
        }
    }
}
