import com.sun.source.tree.AssertTree;
import com.sun.source.tree.CatchTree;
import com.sun.source.tree.ClassTree;
import com.sun.source.tree.CompilationUnitTree;
import com.sun.source.tree.ImportTree;
import com.sun.source.tree.LambdaExpressionTree;
import com.sun.source.tree.MemberReferenceTree;
import com.sun.source.tree.MethodInvocationTree;
import com.sun.source.tree.MethodTree;
import com.sun.source.tree.NewArrayTree;
import com.sun.source.tree.NewClassTree;
import com.sun.source.tree.PackageTree;
import com.sun.source.tree.SynchronizedTree;
import com.sun.source.tree.ThrowTree;
import com.sun.source.tree.Tree;
import com.sun.source.tree.TryTree;
import com.sun.source.tree.TypeCastTree;
import com.sun.source.tree.VariableTree;
import com.sun.source.tree.WhileLoopTree;
import com.sun.source.util.JavacTask;
import com.sun.source.util.TreePathScanner;
import com.sun.source.util.Trees;
import java.io.IOException;
import java.nio.file.Path;
import java.util.ArrayDeque;
import java.util.List;
import java.util.Map;
import java.util.Set;
import java.util.TreeMap;
import java.util.TreeSet;
import javax.lang.model.element.Element;
import javax.lang.model.element.ElementKind;
import javax.lang.model.element.Modifier;
import javax.tools.JavaCompiler;
import javax.tools.StandardJavaFileManager;
import javax.tools.ToolProvider;

/**
 * The rules of LANGUAGE.md that can be read off the class's text, by javac's own reading of it. Where the class
 * does without something that a rule allows within bounds, that it does without is looked at: the rule holds then.
 */
public final class RulesTest extends Cases {
    private static final Path SOURCE = Path.of("src/main/java/DocumentFile.java");
    private static final int ENDLESS = 1000;

    public static void main(String[] args) {
        run(RulesTest.class);
    }

    /** What the text has, as the rules ask for it. */
    private static final class Reading extends TreePathScanner<Void, Void> {
        private final Trees trees;
        private final CompilationUnitTree unit;
        private final Set<String> classes = new TreeSet<>();
        private final Set<String> outside = new TreeSet<>();
        private final Set<String> unwanted = new TreeSet<>();
        private final Set<String> staticFields = new TreeSet<>();
        private final Map<String, Integer> fields = new TreeMap<>();
        private final Map<String, Integer> parameters = new TreeMap<>();
        private final Map<String, Integer> lines = new TreeMap<>();
        private final Map<String, Set<String>> calls = new TreeMap<>();
        // The methods that the reading is within, or that a way of calls has come through.
        private final ArrayDeque<String> within = new ArrayDeque<>();

        private Reading(Trees trees, CompilationUnitTree unit) {
            this.trees = trees;
            this.unit = unit;
        }

        static Reading read() throws IOException {
            JavaCompiler compiler = ToolProvider.getSystemJavaCompiler();
            try (StandardJavaFileManager files = compiler.getStandardFileManager(null, null, null)) {
                JavacTask task = (JavacTask) compiler.getTask(null, files, null, List.of("-proc:none"), null,
                        files.getJavaFileObjects(SOURCE));
                CompilationUnitTree unit = task.parse().iterator().next();
                task.analyze();
                Reading reading = new Reading(Trees.instance(task), unit);
                reading.scan(unit, null);
                return reading;
            }
        }

        private String name(Element method) {
            return method.getEnclosingElement() + "." + method;
        }

        private long line(long position) {
            return unit.getLineMap().getLineNumber(position);
        }

        private int lines(Tree tree) {
            long first = line(trees.getSourcePositions().getStartPosition(unit, tree));
            return (int) (line(trees.getSourcePositions().getEndPosition(unit, tree)) - first) + 1;
        }

        private Void unwanted(String what, Tree tree) {
            unwanted.add(what + " in line " + line(trees.getSourcePositions().getStartPosition(unit, tree)));
            return null;
        }

        @Override
        public Void visitPackage(PackageTree tree, Void v) {
            return unwanted("package", tree);
        }

        @Override
        public Void visitImport(ImportTree tree, Void v) {
            return unwanted("import", tree);
        }

        @Override
        public Void visitLambdaExpression(LambdaExpressionTree tree, Void v) {
            return unwanted("lambda", tree);
        }

        @Override
        public Void visitMemberReference(MemberReferenceTree tree, Void v) {
            return unwanted("method reference", tree);
        }

        @Override
        public Void visitThrow(ThrowTree tree, Void v) {
            return unwanted("throw", tree);
        }

        @Override
        public Void visitTry(TryTree tree, Void v) {
            return unwanted("try", tree);
        }

        @Override
        public Void visitCatch(CatchTree tree, Void v) {
            return unwanted("catch", tree);
        }

        @Override
        public Void visitSynchronized(SynchronizedTree tree, Void v) {
            return unwanted("synchronized", tree);
        }

        @Override
        public Void visitAssert(AssertTree tree, Void v) {
            return unwanted("assert", tree);
        }

        @Override
        public Void visitWhileLoop(WhileLoopTree tree, Void v) {
            return unwanted("while, whose bound is not in its head,", tree);
        }

        /** Casts between numbers can't fail. */
        @Override
        public Void visitTypeCast(TypeCastTree tree, Void v) {
            if (tree.getType().getKind() != Tree.Kind.PRIMITIVE_TYPE) {
                unwanted("cast", tree);
            }
            return super.visitTypeCast(tree, v);
        }

        @Override
        public Void visitNewClass(NewClassTree tree, Void v) {
            if (!within.isEmpty() && !within.peek().contains("<init>")) {
                unwanted("object made outside a constructor", tree);
            }
            return super.visitNewClass(tree, v);
        }

        @Override
        public Void visitNewArray(NewArrayTree tree, Void v) {
            if (!within.isEmpty() && !within.peek().contains("<init>")) {
                unwanted("array made outside a constructor", tree);
            }
            return super.visitNewArray(tree, v);
        }

        @Override
        public Void visitClass(ClassTree tree, Void v) {
            Element element = trees.getElement(getCurrentPath());
            classes.add(element.toString());
            fields.put(element.toString(), 0);
            return super.visitClass(tree, v);
        }

        @Override
        public Void visitVariable(VariableTree tree, Void v) {
            Element element = trees.getElement(getCurrentPath());
            if (element.getKind() == ElementKind.FIELD) {
                Set<Modifier> modifiers = element.getModifiers();
                if (modifiers.contains(Modifier.STATIC)) {
                    staticFields.add((modifiers.contains(Modifier.FINAL) ? "final " : "") + tree.getType());
                } else {
                    fields.merge(element.getEnclosingElement().toString(), 1, Integer::sum);
                }
            }
            return super.visitVariable(tree, v);
        }

        @Override
        public Void visitMethod(MethodTree tree, Void v) {
            Element element = trees.getElement(getCurrentPath());
            String name = element.getKind() == ElementKind.CONSTRUCTOR
                    ? element.getEnclosingElement() + ".<init>" : name(element);
            parameters.put(name, tree.getParameters().size());
            lines.put(name, lines(tree));
            calls.putIfAbsent(name, new TreeSet<>());
            within.push(name);
            super.visitMethod(tree, v);
            within.pop();
            return null;
        }

        @Override
        public Void visitMethodInvocation(MethodInvocationTree tree, Void v) {
            Element called = trees.getElement(getCurrentPath());
            if (called.getKind() == ElementKind.METHOD) {
                if (!called.getEnclosingElement().toString().startsWith("DocumentFile")) {
                    outside.add(name(called));
                }
                calls.get(within.peek()).add(name(called));
            }
            return super.visitMethodInvocation(tree, v);
        }

        /** How many calls stand open at once below and with this one; above any bound if one calls itself. */
        private int depth(String method) {
            if (within.contains(method)) {
                return ENDLESS;
            }
            within.push(method);
            int deepest = 0;
            for (String called : calls.getOrDefault(method, Set.of())) {
                deepest = Math.max(deepest, depth(called));
            }
            within.pop();
            return Math.min(ENDLESS, deepest + 1);
        }
    }

    private static int most(Map<String, Integer> counts) {
        due("having counts", false, counts.isEmpty());
        return counts.values().stream().max(Integer::compare).orElse(0);
    }

    /** Package lines, imports, lambdas, exceptions, casts of objects, and objects made outside constructors. */
    static void rules2And3And6And9And12NothingThatIsUnwanted() throws IOException {
        due("what is unwanted", "[]", Reading.read().unwanted.toString());
    }

    static void rule4NoCallOfTheLibrary() throws IOException {
        due("calls outside the class", "[]", Reading.read().outside.toString());
    }

    static void rule5StaticFieldsAreConstants() throws IOException {
        due("the kinds of static fields", "[final int, final int[]]", Reading.read().staticFields.toString());
    }

    static void rule8And11CallsGoEightDeepAtMostAndNoneCallsItself() throws IOException {
        Reading reading = Reading.read();
        for (String method : reading.calls.keySet()) {
            int depth = reading.depth(method);
            due(method + " going " + depth + " deep, at most 8", true, depth <= 8);
        }
    }

    static void rule11TwelveClassesAtMost() throws IOException {
        Reading reading = Reading.read();
        due(reading.classes.size() + " classes, at most 12", true, reading.classes.size() <= 12);
    }

    static void rule11TwentyFieldsAtMost() throws IOException {
        int most = most(Reading.read().fields);
        due(most + " fields of a class, at most 20", true, most <= 20);
    }

    static void rule11SevenParametersAtMost() throws IOException {
        int most = most(Reading.read().parameters);
        due(most + " parameters of a method, at most 7", true, most <= 7);
    }

    static void rule11SixtyLinesAtMost() throws IOException {
        int most = most(Reading.read().lines);
        due(most + " lines of a method, at most 60", true, most <= 60);
    }
}
