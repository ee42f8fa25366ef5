import com.sun.source.tree.ClassTree;
import com.sun.source.tree.MethodInvocationTree;
import com.sun.source.tree.MethodTree;
import com.sun.source.tree.NewClassTree;
import com.sun.source.tree.Tree;
import com.sun.source.tree.VariableTree;
import com.sun.source.util.JavacTask;
import com.sun.source.util.TreePath;
import com.sun.source.util.TreePathScanner;
import com.sun.source.util.Trees;
import java.io.IOException;
import java.nio.file.Path;
import java.util.ArrayList;
import java.util.List;
import java.util.Map;
import java.util.Set;
import java.util.TreeMap;
import java.util.TreeSet;
import javax.lang.model.element.Element;
import javax.tools.JavaCompiler;
import javax.tools.StandardJavaFileManager;
import javax.tools.ToolProvider;

/**
 * The rules of LANGUAGE.md on calls, seen from the tree of calls that the compiler knows of the class (the first argument): no
 * method calls itself, by way of others neither; calls go eight deep at most; of the library only what is listed is called.
 */
public final class CallTreeTest {
    private static final int MOST_DEEP = 8;
    private static final Set<String> LIBRARY = Set.of("System.arraycopy(java.lang.Object,int,java.lang.Object,int,int)",
            "Math.max(int,int)", "Math.min(int,int)", "Integer.compare(int,int)", "Long.compare(long,long)", "Object.Object()");

    private final Map<String, Set<String>> calls = new TreeMap<>();

    public static void main(String[] args) throws IOException {
        CallTreeTest test = new CallTreeTest();
        test.read(Path.of(args.length > 0 ? args[0] : "src/main/java/BackIndex.java"));
        Calls.check(test.calls.size() > 100, "the tree of calls has not been read: " + test.calls);
        for (String method : test.calls.keySet()) {
            test.deepest(method, new ArrayList<>());
        }
        test.library();
        Calls.end();
    }

    private void read(Path source) throws IOException {
        JavaCompiler compiler = ToolProvider.getSystemJavaCompiler();
        try (StandardJavaFileManager files = compiler.getStandardFileManager(null, null, null)) {
            JavacTask task = (JavacTask) compiler.getTask(null, files, null, null, null, files.getJavaFileObjects(source));
            Iterable<? extends Tree> units = task.parse();
            task.analyze();
            new Reader(Trees.instance(task), calls).scan(units, null);
        }
    }

    /** Gathers which method calls which; what a field is given at first counts as called by the class's constructor. */
    private static final class Reader extends TreePathScanner<Void, Void> {
        private final Trees trees;
        private final Map<String, Set<String>> calls;

        Reader(Trees trees, Map<String, Set<String>> calls) {
            this.trees = trees;
            this.calls = calls;
        }

        @Override
        public Void visitMethodInvocation(MethodInvocationTree node, Void unused) {
            gather();
            return super.visitMethodInvocation(node, unused);
        }

        @Override
        public Void visitNewClass(NewClassTree node, Void unused) {
            gather();
            return super.visitNewClass(node, unused);
        }

        private void gather() {
            calls.computeIfAbsent(caller(), name -> new TreeSet<>()).add(nameOf(trees.getElement(getCurrentPath())));
        }

        @Override
        public Void visitMethod(MethodTree node, Void unused) {
            calls.computeIfAbsent(nameOf(trees.getElement(getCurrentPath())), name -> new TreeSet<>());
            return super.visitMethod(node, unused);
        }

        private String caller() {
            for (TreePath path = getCurrentPath(); path != null; path = path.getParentPath()) {
                boolean isField = path.getLeaf() instanceof VariableTree && path.getParentPath().getLeaf() instanceof ClassTree;
                if (path.getLeaf() instanceof MethodTree) {
                    return nameOf(trees.getElement(path));
                }
                if (isField) {
                    return constructorOf(trees.getElement(path).getEnclosingElement());
                }
            }
            throw new IllegalStateException("a call that stands in no method");
        }

        private static String constructorOf(Element type) {
            return type.getEnclosedElements().stream().filter(e -> e.getSimpleName().contentEquals("<init>"))
                    .map(Reader::nameOf).findFirst().orElseThrow();
        }

        private static String nameOf(Element method) {
            return method.getEnclosingElement().getSimpleName() + "." + method;
        }
    }

    private void deepest(String method, List<String> open) {
        boolean isOpen = open.contains(method);
        Calls.check(!isOpen, method + " calls itself, by way of " + open);
        open.add(method);
        Calls.check(open.size() <= MOST_DEEP, "calls go " + open.size() + " deep: " + open);
        for (String called : isOpen ? Set.<String>of() : calls.getOrDefault(method, Set.of())) {
            deepest(called, open);
        }
        open.remove(open.size() - 1);
    }

    private void library() {
        for (Set<String> called : calls.values()) {
            for (String each : called) {
                Calls.check(calls.containsKey(each) || LIBRARY.contains(each), "the library's " + each + " is not listed");
            }
        }
    }
}
