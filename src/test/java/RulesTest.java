import com.sun.source.tree.BinaryTree;
import com.sun.source.tree.ClassTree;
import com.sun.source.tree.CompilationUnitTree;
import com.sun.source.tree.MethodInvocationTree;
import com.sun.source.tree.MethodTree;
import com.sun.source.tree.NewArrayTree;
import com.sun.source.tree.NewClassTree;
import com.sun.source.tree.Tree;
import com.sun.source.tree.VariableTree;
import com.sun.source.util.JavacTask;
import com.sun.source.util.TreePath;
import com.sun.source.util.TreePathScanner;
import com.sun.source.util.Trees;
import java.lang.reflect.Array;
import java.lang.reflect.Field;
import java.lang.reflect.Modifier;
import java.nio.file.Path;
import java.util.IdentityHashMap;
import java.util.LinkedHashMap;
import java.util.LinkedHashSet;
import java.util.List;
import java.util.Map;
import java.util.Set;
import java.util.TreeMap;
import java.util.regex.Pattern;
import javax.lang.model.element.Element;
import javax.lang.model.element.ElementKind;
import javax.lang.model.element.ExecutableElement;
import javax.lang.model.element.TypeElement;
import javax.lang.model.element.VariableElement;
import javax.tools.JavaCompiler;
import javax.tools.StandardJavaFileManager;
import javax.tools.ToolProvider;

/** Rules of LANGUAGE.md that need the compiler's eyes: who calls whom, what is made where, which library is used. */
public final class RulesTest {
    private static final String SOURCE = "src/main/java/LowerBows.java";
    private static final int DEEPEST = 8, MOST_PARAMETERS = 7;
    /** All rows of one object; 7.3 million elements then are enough for some 5,000 objects. */
    private static final int MOST_ELEMENTS = 1_400, MOST_OBJECTS = 60;

    private static final Pattern LIBRARY = Pattern.compile("java\\.lang\\.String\\."
        + "(length|charAt|isEmpty|equals|indexOf|substring|toCharArray)"
        + "|java\\.lang\\.StringBuilder\\.(append|charAt|setCharAt|setLength|deleteCharAt|reverse|length|toString)"
        + "|java\\.util\\.(ArrayList|List)\\.(add|get|set|remove|size|isEmpty|clear|of)"
        + "|java\\.lang\\.(Integer|Long|Math)\\.(?!.*Exact$)\\w+|java\\.lang\\.System\\.arraycopy"
        + "|java\\.util\\.Arrays\\.(copyOf|copyOfRange|fill)");
    private static final Pattern TYPE = Pattern.compile("(int|long|short|byte|char|boolean|double|float|void"
        + "|java\\.lang\\.String|LowerBows(\\.\\w+)?)(\\[\\]){0,2}|java\\.lang\\.StringBuilder"
        + "|java\\.util\\.(ArrayList|List)<(java\\.lang\\.Integer|LowerBows\\.\\w+)>");
    private static final Pattern CONSTANT = Pattern.compile("int|long|boolean|char|java\\.lang\\.String|(int|long|char|byte)\\[\\]");
    private static final Set<Tree.Kind> LEFT_OUT = Set.of(Tree.Kind.THROW, Tree.Kind.TRY, Tree.Kind.CATCH,
        Tree.Kind.SYNCHRONIZED, Tree.Kind.ASSERT, Tree.Kind.LAMBDA_EXPRESSION, Tree.Kind.MEMBER_REFERENCE);

    private static final Map<String, Set<String>> CALLS = new LinkedHashMap<>();
    private static final Map<String, Integer> DEPTHS = new TreeMap<>();
    private static final Set<String> OPEN = new LinkedHashSet<>();
    private static int looks, wrong;

    private static void hold(String what, boolean holds) {
        looks++;
        if (!holds) {
            wrong++;
            System.out.println(what);
        }
    }

    /** Goes through all of the class with each name resolved. */
    private static final class Reader extends TreePathScanner<Void, Void> {
        private final Trees trees;

        Reader(Trees trees) {
            this.trees = trees;
        }

        @Override
        public Void scan(Tree tree, Void none) {
            if (tree != null) {
                hold(place(tree) + "the language leaves out " + tree.getKind(), !LEFT_OUT.contains(tree.getKind()));
            }
            return super.scan(tree, none);
        }

        @Override
        public Void visitClass(ClassTree tree, Void none) {
            Element made = trees.getElement(getCurrentPath());
            boolean nested = made.getEnclosingElement().getKind() == ElementKind.CLASS;
            boolean own = made.getEnclosingElement().getKind() == ElementKind.PACKAGE;
            hold(place(tree) + "a class that is neither the one nor static inside it", own
                || nested && made.getModifiers().contains(javax.lang.model.element.Modifier.STATIC));
            return super.visitClass(tree, none);
        }

        @Override
        public Void visitMethod(MethodTree tree, Void none) {
            hold(place(tree) + tree.getName() + " has too many parameters",
                tree.getParameters().size() <= MOST_PARAMETERS);
            return super.visitMethod(tree, none);
        }

        @Override
        public Void visitBlock(com.sun.source.tree.BlockTree tree, Void none) {
            hold(place(tree) + "a static block", !tree.isStatic());
            return super.visitBlock(tree, none);
        }

        @Override
        public Void visitVariable(VariableTree tree, Void none) {
            VariableElement made = (VariableElement) trees.getElement(getCurrentPath());
            String type = made.asType().toString();
            hold(place(tree) + tree.getName() + " is of a type that is not listed: " + type, TYPE.matcher(type).matches());
            if (made.getKind() == ElementKind.FIELD
                && made.getModifiers().contains(javax.lang.model.element.Modifier.STATIC)) {
                hold(place(tree) + tree.getName() + " is static, but no constant",
                    made.getModifiers().contains(javax.lang.model.element.Modifier.FINAL)
                    && CONSTANT.matcher(type).matches());
            }
            return super.visitVariable(tree, none);
        }

        @Override
        public Void visitMethodInvocation(MethodInvocationTree tree, Void none) {
            ExecutableElement called = (ExecutableElement) trees.getElement(new TreePath(getCurrentPath(), tree.getMethodSelect()));
            String owner = ((TypeElement) called.getEnclosingElement()).getQualifiedName().toString();
            String name = owner + "." + called.getSimpleName();
            boolean own = owner.startsWith("LowerBows");
            boolean implied = called.getKind() == ElementKind.CONSTRUCTOR;
            hold(place(tree) + name + " is not of the library that is listed", own || implied || LIBRARY.matcher(name).matches());
            if (!implied) {
                addCall(own ? key(called) : name);
            }
            return super.visitMethodInvocation(tree, none);
        }

        @Override
        public Void visitNewClass(NewClassTree tree, Void none) {
            ExecutableElement made = (ExecutableElement) trees.getElement(getCurrentPath());
            hold(place(tree) + "an object is made by a call", isInMaking());
            hold(place(tree) + "a class without a name", tree.getClassBody() == null);
            addCall(key(made));
            return super.visitNewClass(tree, none);
        }

        @Override
        public Void visitNewArray(NewArrayTree tree, Void none) {
            hold(place(tree) + "a row is made by a call", isInMaking());
            return super.visitNewArray(tree, none);
        }

        @Override
        public Void visitBinary(BinaryTree tree, Void none) {
            String left = trees.getTypeMirror(new TreePath(getCurrentPath(), tree.getLeftOperand())).toString();
            String right = trees.getTypeMirror(new TreePath(getCurrentPath(), tree.getRightOperand())).toString();
            hold(place(tree) + "texts with " + tree.getKind(), !left.equals("java.lang.String") && !right.equals("java.lang.String"));
            return super.visitBinary(tree, none);
        }

        private MethodTree method() {
            for (TreePath path = getCurrentPath(); path != null; path = path.getParentPath()) {
                if (path.getLeaf() instanceof MethodTree) {
                    return (MethodTree) path.getLeaf();
                }
            }
            return null;
        }

        /** No call makes anything: rows come with the object, so that 512 calls take no room. */
        private boolean isInMaking() {
            MethodTree method = method();
            return method == null || method.getReturnType() == null;
        }

        private void addCall(String called) {
            for (TreePath path = getCurrentPath(); path != null; path = path.getParentPath()) {
                if (path.getLeaf() instanceof MethodTree) {
                    CALLS.computeIfAbsent(key((ExecutableElement) trees.getElement(path)), k -> new LinkedHashSet<>()).add(called);
                    return;
                }
                if (path.getLeaf() instanceof ClassTree) {
                    String owner = ((TypeElement) trees.getElement(path)).getQualifiedName().toString();
                    CALLS.computeIfAbsent(owner + ".<init>", k -> new LinkedHashSet<>()).add(called);
                    return;
                }
            }
        }

        private static String key(ExecutableElement e) {
            String owner = ((TypeElement) e.getEnclosingElement()).getQualifiedName().toString();
            boolean made = e.getKind() == ElementKind.CONSTRUCTOR;
            return made ? owner + ".<init>" : owner + "." + e;
        }

        private String place(Tree tree) {
            CompilationUnitTree unit = getCurrentPath() == null ? null : getCurrentPath().getCompilationUnit();
            if (unit == null) {
                return "";
            }
            long at = trees.getSourcePositions().getStartPosition(unit, tree);
            return "line " + unit.getLineMap().getLineNumber(Math.max(at, 0)) + ": ";
        }
    }

    /** How many calls stand open at once, the library's last one too. */
    private static int depth(String method) {
        if (DEPTHS.containsKey(method)) {
            return DEPTHS.get(method);
        }
        OPEN.add(method);
        int below = 0;
        for (String called : CALLS.getOrDefault(method, Set.of())) {
            boolean again = OPEN.contains(called);
            hold(called + " calls itself, by " + OPEN, !again);
            below = again ? below : Math.max(below, depth(called));
        }
        OPEN.remove(method);
        DEPTHS.put(method, below + 1);
        return below + 1;
    }

    private static void readSource() throws Exception {
        JavaCompiler compiler = ToolProvider.getSystemJavaCompiler();
        try (StandardJavaFileManager files = compiler.getStandardFileManager(null, null, null)) {
            JavacTask task = (JavacTask) compiler.getTask(null, files, null, List.of("-proc:none", "-Xlint:none"), null,
                files.getJavaFileObjects(Path.of(SOURCE)));
            Iterable<? extends CompilationUnitTree> units = task.parse();
            task.analyze();
            Trees trees = Trees.instance(task);
            for (CompilationUnitTree unit : units) {
                hold("the class has a package", unit.getPackageName() == null);
                new Reader(trees).scan(unit, null);
            }
        }
    }

    private static void lookAtDepths() {
        for (String method : List.copyOf(CALLS.keySet())) {
            int deep = depth(method);
            hold(method + " goes " + deep + " calls deep", deep <= DEEPEST);
        }
        hold("digest is not found among the calls", DEPTHS.getOrDefault("LowerBows.digest()", 0) > 1);
    }

    /** Objects and rows that hang on one, and their fields and elements. */
    private static int[] room(Object of, Map<Object, Boolean> known) throws IllegalAccessException {
        int[] sum = {0, 0};
        if (of == null || known.put(of, true) != null) {
            return sum;
        }
        sum[0] = 1;
        if (of.getClass().isArray()) {
            int length = Array.getLength(of);
            sum[1] = length;
            for (int i = 0; i < length && !of.getClass().getComponentType().isPrimitive(); i++) {
                add(sum, room(Array.get(of, i), known));
            }
            return sum;
        }
        for (Field f : of.getClass().getDeclaredFields()) {
            if (!Modifier.isStatic(f.getModifiers())) {
                sum[1]++;
                f.setAccessible(true);
                if (!f.getType().isPrimitive()) {
                    add(sum, room(f.get(of), known));
                }
            }
        }
        return sum;
    }

    private static void add(int[] sum, int[] more) {
        sum[0] += more[0];
        sum[1] += more[1];
    }

    private static void lookAtRoom() throws IllegalAccessException {
        int[] room = room(new LowerBows(), new IdentityHashMap<>());
        hold("an object takes " + room[0] + " objects and rows", room[0] <= MOST_OBJECTS);
        hold("an object takes " + room[1] + " fields and elements", room[1] <= MOST_ELEMENTS);
        System.out.println("one object: " + room[0] + " objects and rows, " + room[1] + " fields and elements; digest goes "
            + DEPTHS.get("LowerBows.digest()") + " calls deep");
    }

    public static void main(String[] args) throws Exception {
        readSource();
        lookAtDepths();
        lookAtRoom();
        System.out.println(looks + " looks at the rules, " + wrong + " broken");
        if (wrong != 0) {
            System.exit(1);
        }
    }
}
