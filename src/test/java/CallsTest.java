import com.sun.source.tree.ClassTree;
import com.sun.source.tree.CompilationUnitTree;
import com.sun.source.tree.MethodInvocationTree;
import com.sun.source.tree.MethodTree;
import com.sun.source.tree.NewClassTree;
import com.sun.source.tree.Tree;
import com.sun.source.util.JavacTask;
import com.sun.source.util.TreePathScanner;
import com.sun.source.util.Trees;
import java.io.IOException;
import java.nio.file.Path;
import java.util.HashMap;
import java.util.HashSet;
import java.util.List;
import java.util.Map;
import java.util.Set;
import java.util.TreeMap;
import java.util.TreeSet;
import javax.lang.model.element.Element;
import javax.tools.JavaCompiler;
import javax.tools.StandardJavaFileManager;
import javax.tools.ToolProvider;

/** The rules of LANGUAGE.md about calls (4, 8, 11), looked up in the source as javac understands it. */
public final class CallsTest {
    private static final int MOST_DEEP = 8;
    private static final int MOST_OPEN = 300;
    /** Levels of a recursion: twelve by the document's limits, and the one that is refused. */
    private static final int LEVELS = 13;
    private static final Set<String> LIBRARY = Set.of("java.lang.System.arraycopy", "java.util.Arrays.fill",
        "java.lang.Math.max", "java.lang.Math.min", "java.lang.Integer.bitCount", "java.lang.String.length",
        "java.lang.String.charAt", "java.lang.String.indexOf", "java.lang.Object.<init>");
    /** The recursions that the document's limits keep low: exprs within exprs, STARTS within STARTS. */
    private static final Set<String> RECURSIONS = Set.of("SignalBook.Reader.readFactor",
        "SignalBook.Worker.startItem");

    private static final Map<String, Set<String>> calls = new TreeMap<>();
    private static final Map<String, Set<String>> reached = new HashMap<>();
    private static int wrong;

    public static void main(String[] args) throws IOException {
        readCalls();
        calls.keySet().forEach(m -> reached.put(m, reachedFrom(m)));
        library();
        recursions();
        int deepest = 0;
        for (String method : calls.keySet()) {
            int deep = depthOf(method);
            deepest = Math.max(deepest, deep);
            rule(11, deep <= MOST_DEEP, method + " goes " + deep + " calls deep");
        }
        unused();
        System.out.println(calls.size() + " methods, at most " + deepest + " calls deep; "
            + (wrong == 0 ? "the rules are kept" : wrong + " rules are broken"));
        if (wrong != 0 || calls.size() < 100) {
            System.exit(1);
        }
    }

    private static void rule(int number, boolean kept, String what) {
        if (!kept) {
            wrong++;
            System.out.println("rule " + number + ": " + what);
        }
    }

    private static void readCalls() throws IOException {
        JavaCompiler compiler = ToolProvider.getSystemJavaCompiler();
        try (StandardJavaFileManager files = compiler.getStandardFileManager(null, null, null)) {
            JavacTask task = (JavacTask) compiler.getTask(null, files, null, List.of("-proc:none"), null,
                files.getJavaFileObjects(Path.of("src/main/java/SignalBook.java")));
            Iterable<? extends CompilationUnitTree> units = task.parse();
            task.analyze();
            Collector collector = new Collector(Trees.instance(task));
            for (CompilationUnitTree unit : units) {
                collector.scan(unit, "");
            }
        }
    }

    /** Keeps who calls whom; what stands in no method belongs to the class's constructor. */
    private static final class Collector extends TreePathScanner<Void, String> {
        private final Trees trees;

        Collector(Trees trees) {
            this.trees = trees;
        }

        private static String nameOf(Element e) {
            return e.getEnclosingElement() + "." + e.getSimpleName();
        }

        private Void keep(String caller, Tree callee) {
            Element e = trees.getElement(getCurrentPath());
            rule(4, e != null, "unknown: " + callee);
            if (e != null) {
                calls.computeIfAbsent(caller, c -> new TreeSet<>()).add(nameOf(e));
            }
            return null;
        }

        @Override
        public Void visitClass(ClassTree node, String caller) {
            return super.visitClass(node, trees.getElement(getCurrentPath()) + ".<init>");
        }

        @Override
        public Void visitMethod(MethodTree node, String caller) {
            String name = nameOf(trees.getElement(getCurrentPath()));
            calls.computeIfAbsent(name, c -> new TreeSet<>());
            return super.visitMethod(node, name);
        }

        @Override
        public Void visitMethodInvocation(MethodInvocationTree node, String caller) {
            keep(caller, node);
            return super.visitMethodInvocation(node, caller);
        }

        @Override
        public Void visitNewClass(NewClassTree node, String caller) {
            keep(caller, node);
            return super.visitNewClass(node, caller);
        }
    }

    private static Set<String> reachedFrom(String method) {
        Set<String> found = new HashSet<>();
        collect(method, found);
        return found;
    }

    private static void collect(String method, Set<String> found) {
        for (String next : calls.getOrDefault(method, Set.of())) {
            if (found.add(next)) {
                collect(next, found);
            }
        }
    }

    private static boolean together(String a, String b) {
        return a.equals(b) || reached.get(a).contains(b) && reached.get(b).contains(a);
    }

    private static void library() {
        calls.forEach((caller, called) -> {
            for (String method : called) {
                rule(4, calls.containsKey(method) || LIBRARY.contains(method), caller + " calls " + method);
            }
        });
    }

    /** A level passes each method of a recursion once at most, but for the two exprs of an act with above. */
    private static void recursions() {
        Set<String> known = new HashSet<>();
        for (String one : RECURSIONS) {
            int methods = 0;
            for (String method : calls.keySet()) {
                if (calls.containsKey(one) && together(one, method)) {
                    known.add(method);
                    methods++;
                }
            }
            int open = methods * LEVELS + 2 * MOST_DEEP;
            rule(8, methods > 1 && open < MOST_OPEN, one + " has " + open + " calls open");
        }
        for (String method : calls.keySet()) {
            rule(8, known.contains(method) || !reached.get(method).contains(method), method + " calls itself");
        }
    }

    /** How many calls stand open below a face's call at most, a recursion counted as one. */
    private static int depthOf(String method) {
        int deepest = 0;
        for (String inside : calls.keySet()) {
            if (together(method, inside)) {
                for (String next : calls.get(inside)) {
                    if (calls.containsKey(next) && !together(method, next)) {
                        deepest = Math.max(deepest, depthOf(next));
                    }
                }
            }
        }
        return deepest + 1;
    }

    /** A method that no call of the face comes to is there for nothing. */
    private static void unused() {
        Set<String> needed = new HashSet<>();
        for (String method : calls.keySet()) {
            if (method.lastIndexOf('.') == "SignalBook".length()) {
                boolean open = isOpen(method.substring("SignalBook.".length()));
                needed.addAll(open ? reached.get(method) : Set.of());
                needed.addAll(open ? Set.of(method) : Set.of());
            }
        }
        for (String method : calls.keySet()) {
            if (!needed.contains(method)) {
                wrong++;
                System.out.println(method + " is never called");
            }
        }
    }

    private static boolean isOpen(String name) {
        for (var m : SignalBook.class.getMethods()) {
            if (m.getDeclaringClass() == SignalBook.class && m.getName().equals(name)) {
                return true;
            }
        }
        return name.equals("<init>");
    }
}
