import com.sun.source.tree.AnnotationTree;
import com.sun.source.tree.AssertTree;
import com.sun.source.tree.ClassTree;
import com.sun.source.tree.CompilationUnitTree;
import com.sun.source.tree.DoWhileLoopTree;
import com.sun.source.tree.ForLoopTree;
import com.sun.source.tree.LambdaExpressionTree;
import com.sun.source.tree.MemberReferenceTree;
import com.sun.source.tree.MethodInvocationTree;
import com.sun.source.tree.MethodTree;
import com.sun.source.tree.NewClassTree;
import com.sun.source.tree.SynchronizedTree;
import com.sun.source.tree.ThrowTree;
import com.sun.source.tree.Tree;
import com.sun.source.tree.TryTree;
import com.sun.source.tree.VariableTree;
import com.sun.source.tree.WhileLoopTree;
import com.sun.source.util.JavacTask;
import com.sun.source.util.TreePathScanner;
import com.sun.source.util.Trees;
import java.io.IOException;
import java.nio.file.Path;
import java.util.ArrayList;
import java.util.HashSet;
import java.util.List;
import java.util.Map;
import java.util.Set;
import java.util.TreeMap;
import java.util.TreeSet;
import javax.lang.model.element.Element;
import javax.lang.model.element.Modifier;
import javax.tools.JavaCompiler;
import javax.tools.StandardJavaFileManager;
import javax.tools.ToolProvider;

/**
 * The rules of LANGUAGE.md that can be counted in the text of the program; FaceTest looks at rule 1.
 * The program needs less than the rules allow, and that is what is looked for here: a form that
 * is allowed but new (a throw, say) is a reason to look at its rule and at this test.
 */
public final class LanguageTest {
    private static final Path PROGRAM = Path.of("src/main/java/RefStack.java");
    private static final Set<String> LIBRARY = Set.of("Math.max", "Math.min", "Object.<init>");
    private static final Set<String> TYPES = Set.of(
            "int", "long", "boolean", "int[]", "long[]", "Names", "Rows", "Rows[]", "Table", "Table[]",
            "Reader", "Writer", "Walk", "Transaction", "TableStack");
    private static final Set<String> CONSTANT_TYPES = Set.of("int", "long", "boolean");
    private static final int LONGEST_METHOD = 60;
    private static final int MOST_PARAMETERS = 7;
    private static final int DEEPEST = 8;
    private static final int MOST_CLASSES = 12;
    private static final int MOST_FIELDS = 20;

    /** What was found in the program's text. */
    private static final class Found extends TreePathScanner<Void, Void> {
        private final Trees trees;
        private final CompilationUnitTree unit;
        private final Map<String, Set<String>> calls = new TreeMap<>();
        private final Map<String, Integer> linesOfMethods = new TreeMap<>();
        private final Map<String, Integer> parametersOfMethods = new TreeMap<>();
        private final Map<String, Integer> fieldsOfClasses = new TreeMap<>();
        private final Set<String> types = new TreeSet<>();
        private final Set<String> typesOfStatics = new TreeSet<>();
        private final Set<String> made = new TreeSet<>();
        private final List<String> forms = new ArrayList<>();
        private String method = "";

        Found(Trees trees, CompilationUnitTree unit) {
            this.trees = trees;
            this.unit = unit;
        }

        private long lineOf(long position) {
            return unit.getLineMap().getLineNumber(position);
        }

        private void form(String name, Tree tree) {
            forms.add(name + " in line " + lineOf(trees.getSourcePositions().getStartPosition(unit, tree)));
        }

        private static String nameOf(Element element) {
            return element.getEnclosingElement().getSimpleName() + "." + element.getSimpleName();
        }

        @Override
        public Void visitClass(ClassTree tree, Void none) {
            int fields = 0;
            for (Tree member : tree.getMembers()) {
                if (member instanceof VariableTree field) {
                    boolean isStatic = field.getModifiers().getFlags().contains(Modifier.STATIC);
                    fields += isStatic ? 0 : 1;
                    if (isStatic && !field.getModifiers().getFlags().contains(Modifier.FINAL)) {
                        form("static field that is not final", field);
                    }
                    if (isStatic) {
                        typesOfStatics.add(field.getType().toString());
                    }
                } else if (!(member instanceof MethodTree) && !(member instanceof ClassTree)) {
                    form("initialiser block", member);
                }
            }
            fieldsOfClasses.put(tree.getSimpleName().toString(), fields);
            if (!(getCurrentPath().getParentPath().getLeaf() instanceof ClassTree)
                    && getCurrentPath().getParentPath().getLeaf() != unit) {
                form("local or anonymous class", tree);
            }
            return super.visitClass(tree, none);
        }

        @Override
        public Void visitMethod(MethodTree tree, Void none) {
            String before = method;
            Element element = trees.getElement(getCurrentPath());
            method = nameOf(element);
            if (calls.containsKey(method)) {
                form("second method of the name " + method, tree);
            }
            calls.putIfAbsent(method, new TreeSet<>());
            parametersOfMethods.put(method, tree.getParameters().size());
            long start = trees.getSourcePositions().getStartPosition(unit, tree);
            long end = trees.getSourcePositions().getEndPosition(unit, tree);
            linesOfMethods.put(method, end < 0 ? 0 : (int) (lineOf(end) - lineOf(start) + 1));
            super.visitMethod(tree, none);
            method = before;
            return null;
        }

        @Override
        public Void visitMethodInvocation(MethodInvocationTree tree, Void none) {
            calls.get(method).add(nameOf(trees.getElement(getCurrentPath())));
            return super.visitMethodInvocation(tree, none);
        }

        @Override
        public Void visitNewClass(NewClassTree tree, Void none) {
            made.add(tree.getIdentifier().toString());
            if (!method.isEmpty()) {
                calls.get(method).add(nameOf(trees.getElement(getCurrentPath())));
            }
            return super.visitNewClass(tree, none);
        }

        @Override
        public Void visitVariable(VariableTree tree, Void none) {
            types.add(String.valueOf(tree.getType()));
            return super.visitVariable(tree, none);
        }

        @Override
        public Void visitForLoop(ForLoopTree tree, Void none) {
            if (tree.getCondition() == null || !tree.getCondition().toString().matches(".*(<|>).*")) {
                form("loop without a bound", tree);
            }
            return super.visitForLoop(tree, none);
        }

        @Override
        public Void visitWhileLoop(WhileLoopTree tree, Void none) {
            form("while", tree);
            return super.visitWhileLoop(tree, none);
        }

        @Override
        public Void visitDoWhileLoop(DoWhileLoopTree tree, Void none) {
            form("do", tree);
            return super.visitDoWhileLoop(tree, none);
        }

        @Override
        public Void visitThrow(ThrowTree tree, Void none) {
            form("throw", tree);
            return super.visitThrow(tree, none);
        }

        @Override
        public Void visitTry(TryTree tree, Void none) {
            form("try", tree);
            return super.visitTry(tree, none);
        }

        @Override
        public Void visitLambdaExpression(LambdaExpressionTree tree, Void none) {
            form("lambda", tree);
            return super.visitLambdaExpression(tree, none);
        }

        @Override
        public Void visitMemberReference(MemberReferenceTree tree, Void none) {
            form("method reference", tree);
            return super.visitMemberReference(tree, none);
        }

        @Override
        public Void visitSynchronized(SynchronizedTree tree, Void none) {
            form("synchronized", tree);
            return super.visitSynchronized(tree, none);
        }

        @Override
        public Void visitAssert(AssertTree tree, Void none) {
            form("assert", tree);
            return super.visitAssert(tree, none);
        }

        @Override
        public Void visitAnnotation(AnnotationTree tree, Void none) {
            form("annotation", tree);
            return super.visitAnnotation(tree, none);
        }

        /** How many calls stand open at once below this method, itself counted; 99 if it comes round. */
        int depthOf(String name, Set<String> open) {
            if (!calls.containsKey(name) || !open.add(name)) {
                return open.contains(name) && calls.containsKey(name) ? 99 : 0;
            }
            int deepest = 0;
            for (String called : calls.get(name)) {
                deepest = Math.max(deepest, depthOf(called, open));
            }
            open.remove(name);
            return Math.min(99, deepest + 1);
        }
    }

    private final CompilationUnitTree unit;
    private final Found found;

    private LanguageTest() throws IOException {
        JavaCompiler compiler = ToolProvider.getSystemJavaCompiler();
        try (StandardJavaFileManager files = compiler.getStandardFileManager(null, null, null)) {
            JavacTask task = (JavacTask) compiler.getTask(null, files, null, List.of("-proc:none"), null,
                    files.getJavaFileObjects(PROGRAM));
            unit = task.parse().iterator().next();
            task.analyze();
            found = new Found(Trees.instance(task), unit);
            found.scan(unit, null);
        }
    }

    private static int greatest(Map<String, Integer> numbers) {
        return numbers.values().stream().mapToInt(Integer::intValue).max().orElse(0);
    }

    private static Set<String> others(Set<String> all, Set<String> allowed) {
        Set<String> others = new TreeSet<>(all);
        others.removeAll(allowed);
        return others;
    }

    private static void none(Due due, String what, Iterable<String> texts) {
        int count = 0;
        for (String text : texts) {
            System.out.println(what + ": " + text);
            count++;
        }
        due.is("how often: " + what, count, 0);
    }

    private static void atMost(Due due, String what, int number, int most) {
        due.is(what + " (" + number + ") at most " + most, number <= most, true);
    }

    static void oneClassWithoutAPackage(Due due) throws IOException {
        LanguageTest program = new LanguageTest();
        due.is("package line", program.unit.getPackage() != null, false);
        due.is("imports", program.unit.getImports().size(), 0);
        due.is("classes beside the public one", program.unit.getTypeDecls().size(), 1);
        atMost(due, "classes", program.found.fieldsOfClasses.size(), MOST_CLASSES);
    }

    static void noFormThatIsNotNeeded(Due due) throws IOException {
        none(due, "form", new LanguageTest().found.forms);
    }

    static void typesOfNumbersAndOwnClassesAlone(Due due) throws IOException {
        Found found = new LanguageTest().found;
        none(due, "type", others(found.types, TYPES));
        none(due, "type of a static field", others(found.typesOfStatics, CONSTANT_TYPES));
        none(due, "class of which objects are made", others(found.made, TYPES));
    }

    static void onlyWhatTheLibraryMay(Due due) throws IOException {
        Found found = new LanguageTest().found;
        Set<String> called = new TreeSet<>();
        found.calls.values().forEach(called::addAll);
        Set<String> own = new HashSet<>(found.calls.keySet());
        own.addAll(LIBRARY);
        called.removeIf(name -> name.endsWith(".<init>") && TYPES.contains(name.replace(".<init>", "")));
        none(due, "call", others(called, own));
        due.is("calls were found", found.calls.get("RefStack.commit").size() > 5, true);
    }

    static void shortMethodsOfFewParameters(Due due) throws IOException {
        Found found = new LanguageTest().found;
        atMost(due, "lines of a method", greatest(found.linesOfMethods), LONGEST_METHOD);
        atMost(due, "parameters", greatest(found.parametersOfMethods), MOST_PARAMETERS);
        atMost(due, "fields of a class", greatest(found.fieldsOfClasses), MOST_FIELDS);
    }

    static void callsGoEightDeepAtMost(Due due) throws IOException {
        Found found = new LanguageTest().found;
        int deepest = 0;
        for (String name : found.calls.keySet()) {
            deepest = Math.max(deepest, found.depthOf(name, new HashSet<>()));
        }
        atMost(due, "calls that stand open at once", deepest, DEEPEST);
        due.is("calls were followed", deepest > 3, true);
    }

    public static void main(String[] args) {
        Due.runAll(LanguageTest.class);
    }
}
