import com.sun.source.tree.ClassTree;
import com.sun.source.tree.CompilationUnitTree;
import com.sun.source.tree.MethodInvocationTree;
import com.sun.source.tree.MethodTree;
import com.sun.source.tree.NewArrayTree;
import com.sun.source.tree.NewClassTree;
import com.sun.source.util.JavacTask;
import com.sun.source.util.TreePathScanner;
import com.sun.source.util.Trees;
import java.io.IOException;
import java.util.HashMap;
import java.util.HashSet;
import java.util.List;
import java.util.Map;
import java.util.Set;
import java.util.TreeSet;
import javax.lang.model.element.Element;
import javax.lang.model.element.ElementKind;
import javax.lang.model.element.ExecutableElement;
import javax.tools.JavaCompiler;
import javax.tools.StandardJavaFileManager;
import javax.tools.ToolProvider;

/** What the class calls, as javac sees it: ../shared/LANGUAGE.md's rules 4, 8, 11 and 12. */
public final class CallsTest {
    private static final String SOURCE = "src/main/java/LotFences.java";
    private static final int MOST_DEEP = 8;
    private static final Set<String> LIBRARY = Set.of("java.lang.Math.min(int,int)", "java.lang.Math.min(long,long)",
        "java.lang.Math.max(int,int)", "java.lang.Math.abs(int)",
        "java.lang.Integer.bitCount(int)", "java.lang.System.arraycopy(java.lang.Object,int,java.lang.Object,int,int)",
        "java.util.Arrays.fill(int[],int)", "Array.clone()");

    private static final Map<String, Set<String>> CALLS = new HashMap<>();
    private static final Map<String, Integer> DEPTHS = new HashMap<>();

    public static void main(String[] args) throws IOException {
        JavaCompiler compiler = ToolProvider.getSystemJavaCompiler();
        StandardJavaFileManager files = compiler.getStandardFileManager(null, null, null);
        JavacTask task = (JavacTask) compiler.getTask(null, files, null, null, null, files.getJavaFileObjects(SOURCE));
        Scanner scanner = new Scanner(Trees.instance(task));
        Iterable<? extends CompilationUnitTree> units = task.parse();
        task.analyze();
        scanner.scan(units, null);
        library();
        depths();
        Due.end();
    }

    private static void library() {
        Set<String> used = new TreeSet<>();
        CALLS.values().forEach(used::addAll);
        used.removeAll(CALLS.keySet());
        for (String call : used) {
            Due.due(call + " is no call that is known to be allowed", LIBRARY.contains(call) ? 0 : 1, 0);
        }
    }

    private static void depths() {
        int deepest = 0;
        for (String method : CALLS.keySet()) {
            int depth = depth(method, new HashSet<>());
            Due.due(method + " goes deeper than " + MOST_DEEP + " calls", depth > MOST_DEEP ? 1 : 0, 0);
            deepest = Math.max(deepest, depth);
        }
        Due.due("the longest chain of calls, told in NOTES.md", deepest, 7);
    }

    /** How many calls of the class's own methods stand open at once, this one among them. */
    private static int depth(String method, Set<String> open) {
        if (!open.add(method)) {
            Due.wrong(method + " calls itself");
            return 0;
        }
        Integer known = DEPTHS.get(method);
        int deepest = 0;
        for (String call : known == null ? CALLS.get(method) : List.<String>of()) {
            deepest = CALLS.containsKey(call) ? Math.max(deepest, depth(call, open)) : deepest;
        }
        open.remove(method);
        DEPTHS.put(method, known == null ? deepest + 1 : known);
        return DEPTHS.get(method);
    }

    private static final class Scanner extends TreePathScanner<Void, Void> {
        private final Trees trees;
        private String owner = "";
        private String method = "";
        private boolean inConstructor = false;

        Scanner(Trees trees) {
            this.trees = trees;
        }

        private Element here() {
            return trees.getElement(getCurrentPath());
        }

        private static String name(Element called) {
            return called.getEnclosingElement() + "." + called;
        }

        @Override
        public Void visitClass(ClassTree tree, Void none) {
            String before = owner;
            owner = here().toString();
            super.visitClass(tree, none);
            owner = before;
            return null;
        }

        @Override
        public Void visitMethod(MethodTree tree, Void none) {
            method = name(here());
            inConstructor = here().getKind() == ElementKind.CONSTRUCTOR;
            CALLS.put(method, new HashSet<>());
            super.visitMethod(tree, none);
            method = "";
            return null;
        }

        @Override
        public Void visitMethodInvocation(MethodInvocationTree tree, Void none) {
            ExecutableElement called = (ExecutableElement) here();
            if (!called.getSimpleName().contentEquals("<init>")) {
                CALLS.computeIfAbsent(method.isEmpty() ? owner : method, key -> new HashSet<>()).add(name(called));
            }
            return super.visitMethodInvocation(tree, none);
        }

        @Override
        public Void visitNewClass(NewClassTree tree, Void none) {
            made(tree.toString());
            return super.visitNewClass(tree, none);
        }

        @Override
        public Void visitNewArray(NewArrayTree tree, Void none) {
            made(tree.toString());
            return super.visitNewArray(tree, none);
        }

        /** A field's value is made with its object, so it belongs to no method here. */
        private void made(String what) {
            Due.due(what + " is made by " + method, method.isEmpty() || inConstructor ? 0 : 1, 0);
        }
    }
}
