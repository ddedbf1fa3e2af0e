import com.sun.source.tree.BinaryTree;
import com.sun.source.tree.ClassTree;
import com.sun.source.tree.CompilationUnitTree;
import com.sun.source.tree.MethodInvocationTree;
import com.sun.source.tree.MethodTree;
import com.sun.source.tree.NewArrayTree;
import com.sun.source.tree.NewClassTree;
import com.sun.source.tree.Tree;
import com.sun.source.tree.VariableTree;
import com.sun.source.util.JavacTask;
import com.sun.source.util.TreePath;
import com.sun.source.util.TreePathScanner;
import com.sun.source.util.Trees;
import java.io.File;
import java.lang.reflect.Constructor;
import java.lang.reflect.Field;
import java.lang.reflect.Method;
import java.lang.reflect.Modifier;
import java.util.ArrayList;
import java.util.EnumSet;
import java.util.HashMap;
import java.util.HashSet;
import java.util.LinkedHashMap;
import java.util.List;
import java.util.Map;
import java.util.Set;
import java.util.TreeSet;
import javax.lang.model.element.Element;
import javax.lang.model.element.ElementKind;
import javax.tools.JavaCompiler;
import javax.tools.StandardJavaFileManager;
import javax.tools.ToolProvider;

/** The document's face, and the rules of LANGUAGE.md that the compiler's own trees can show. */
public final class LanguageTest {
    private static final String FILE = "src/main/java/TalkingReels.java";
    private static final Set<Tree.Kind> FORBIDDEN = EnumSet.of(
        Tree.Kind.THROW, Tree.Kind.TRY, Tree.Kind.CATCH, Tree.Kind.SYNCHRONIZED, Tree.Kind.ASSERT, Tree.Kind.IMPORT,
        Tree.Kind.LAMBDA_EXPRESSION, Tree.Kind.MEMBER_REFERENCE, Tree.Kind.ANNOTATION, Tree.Kind.PACKAGE);
    private static final Set<String> LIBRARY = Set.of(
        "charAt", "indexOf", "min", "max", "abs", "bitCount");
    private static final String[] FACE = {
        "boolean asks(int,int,int)", "boolean book(int,int)", "boolean change(int,int,int)", "boolean end(int)",
        "boolean hire(int,int)", "boolean needs(int,int,int)", "boolean owe(int,int,int)", "boolean purse(int,int)",
        "boolean stand(int,int)", "int at(int,int)", "int clause(int,int,int)", "int crowd(int,int,int,int,int)",
        "int event(int,int,int,int)", "int faces(int,int,int)", "int fault(int)", "int feed(int,int,int,int,int)",
        "int hall(int,int,int,int)", "int heard(int,int)", "int lead(int,int,int)", "int off(int,int)",
        "int person(int,int)", "int picture(int,int,int,int,int)", "int pool(int)", "int print(int)", "int rules(int)",
        "int runs(int,int,int)", "int set(int,int,int)", "int stage(int,int)", "int version(int)", "int weeks(int)",
        "int wire(int,int)", "int worth(int,int)", "long clear(int,int,int)", "long look(int)", "long of(int,int)"};

    public static void main(String[] args) throws Exception {
        face();
        trees();
        Check.finish();
    }

    private static void face() {
        Set<String> seen = new TreeSet<>();
        for (Method m : TalkingReels.class.getDeclaredMethods()) {
            if (Modifier.isPrivate(m.getModifiers()) || m.isSynthetic()) {
                continue;
            }
            Check.holds(m + " is public and no more", m.getModifiers() == Modifier.PUBLIC);
            StringBuilder all = new StringBuilder(m.getReturnType() + " " + m.getName() + "(");
            for (Class<?> type : m.getParameterTypes()) {
                all.append(all.charAt(all.length() - 1) == '(' ? "" : ",").append(type);
            }
            seen.add(all + ")");
        }
        Check.holds("the methods are the document's: " + seen, seen.equals(new TreeSet<>(List.of(FACE))));
        for (Field f : TalkingReels.class.getDeclaredFields()) {
            boolean none = f.getName().equals("NONE") && f.getModifiers() == (Modifier.PUBLIC | Modifier.STATIC | Modifier.FINAL);
            Check.holds(f + " is private or NONE", none || Modifier.isPrivate(f.getModifiers()));
        }
        Constructor<?>[] made = TalkingReels.class.getDeclaredConstructors();
        Check.due("constructors", made.length, 1);
        Check.due("its parameters", made[0].getParameterCount(), 0);
        Check.holds("it is public", Modifier.isPublic(made[0].getModifiers()));
        Check.holds("the class is public and final",
            TalkingReels.class.getModifiers() == (Modifier.PUBLIC | Modifier.FINAL));
    }

    private static void trees() throws Exception {
        JavaCompiler compiler = ToolProvider.getSystemJavaCompiler();
        try (StandardJavaFileManager files = compiler.getStandardFileManager(null, null, null)) {
            JavacTask task = (JavacTask) compiler.getTask(
                null, files, null, List.of("-proc:none"), null, files.getJavaFileObjects(new File(FILE)));
            CompilationUnitTree unit = task.parse().iterator().next();
            task.analyze();
            Watcher watcher = new Watcher(unit, Trees.instance(task));
            watcher.scan(unit, null);
            watcher.close();
        }
    }

    private static final class Watcher extends TreePathScanner<Void, Void> {
        private final CompilationUnitTree unit;
        private final Trees trees;
        private final Map<Element, Set<Element>> calls = new LinkedHashMap<>();
        private final Set<String> publicNames = new HashSet<>();
        private final List<String> otherNames = new ArrayList<>();
        private int classes = 0;

        Watcher(CompilationUnitTree unit, Trees trees) {
            this.unit = unit;
            this.trees = trees;
        }

        private long lineOf(Tree tree, boolean end) {
            long at = end ? trees.getSourcePositions().getEndPosition(unit, tree)
                : trees.getSourcePositions().getStartPosition(unit, tree);
            return unit.getLineMap().getLineNumber(at);
        }

        @Override
        public Void scan(Tree tree, Void p) {
            if (tree != null && FORBIDDEN.contains(tree.getKind())) {
                Check.holds("line " + lineOf(tree, false) + " has no " + tree.getKind(), false);
            }
            return super.scan(tree, p);
        }

        @Override
        public Void visitClass(ClassTree tree, Void p) {
            classes++;
            boolean outer = getCurrentPath().getParentPath().getLeaf() instanceof CompilationUnitTree;
            Set<javax.lang.model.element.Modifier> flags = tree.getModifiers().getFlags();
            Check.holds(tree.getSimpleName() + " is static", outer || flags.contains(javax.lang.model.element.Modifier.STATIC));
            int fields = 0;
            for (Tree member : tree.getMembers()) {
                if (member instanceof VariableTree field) {
                    Set<javax.lang.model.element.Modifier> own = field.getModifiers().getFlags();
                    boolean fixed = own.contains(javax.lang.model.element.Modifier.STATIC);
                    fields += fixed ? 0 : 1;
                    Check.holds(field.getName() + " is final if it is static",
                        !fixed || own.contains(javax.lang.model.element.Modifier.FINAL));
                }
            }
            Check.holds(tree.getSimpleName() + " has 20 fields at most, it has " + fields, fields <= 20);
            return super.visitClass(tree, p);
        }

        @Override
        public Void visitMethod(MethodTree tree, Void p) {
            long lines = lineOf(tree, true) - lineOf(tree, false) + 1;
            Check.holds(tree.getName() + " has 60 lines at most, it has " + lines, lines <= 60);
            Check.holds(tree.getName() + " has 7 parameters at most", tree.getParameters().size() <= 7);
            boolean open = tree.getModifiers().getFlags().contains(javax.lang.model.element.Modifier.PUBLIC);
            if (open) {
                publicNames.add(tree.getName().toString());
            } else if (!tree.getName().contentEquals("<init>")) {
                otherNames.add(tree.getName().toString());
            }
            calls.put(trees.getElement(getCurrentPath()), new HashSet<>());
            return super.visitMethod(tree, p);
        }

        private TreePath methodAround() {
            TreePath at = getCurrentPath();
            while (at != null && !(at.getLeaf() instanceof MethodTree)) {
                at = at.getParentPath();
            }
            return at;
        }

        private boolean inConstructor() {
            TreePath at = methodAround();
            return at == null || ((MethodTree) at.getLeaf()).getName().contentEquals("<init>");
        }

        @Override
        public Void visitNewArray(NewArrayTree tree, Void p) {
            Check.holds("line " + lineOf(tree, false) + " makes its array in a constructor", inConstructor());
            return super.visitNewArray(tree, p);
        }

        @Override
        public Void visitNewClass(NewClassTree tree, Void p) {
            Check.holds("line " + lineOf(tree, false) + " makes its object in a constructor", inConstructor());
            note(trees.getElement(getCurrentPath()));
            return super.visitNewClass(tree, p);
        }

        @Override
        public Void visitMethodInvocation(MethodInvocationTree tree, Void p) {
            Element called = trees.getElement(getCurrentPath());
            boolean own = called != null && trees.getPath(called) != null;
            String name = called == null ? "?" : called.getSimpleName().toString();
            if (!own && !name.equals("<init>")) {
                Check.holds("line " + lineOf(tree, false) + " may call " + name, LIBRARY.contains(name));
            }
            note(called);
            return super.visitMethodInvocation(tree, p);
        }

        private void note(Element called) {
            TreePath at = methodAround();
            if (at != null && called != null) {
                calls.get(trees.getElement(at)).add(called);
            }
        }

        @Override
        public Void visitBinary(BinaryTree tree, Void p) {
            String type = String.valueOf(trees.getTypeMirror(getCurrentPath()));
            Check.holds("line " + lineOf(tree, false) + " joins no texts by +", !type.equals("java.lang.String"));
            return super.visitBinary(tree, p);
        }

        void close() {
            Check.holds("there are 12 classes at most, there are " + classes, classes <= 12);
            for (String name : otherNames) {
                Check.holds(name + " is no public name too", !publicNames.contains(name));
            }
            Map<Element, Integer> depths = new HashMap<>();
            for (Element e : calls.keySet()) {
                if (e.getKind() == ElementKind.METHOD) {
                    int depth = depth(e, new HashSet<>(), depths);
                    Check.holds(e + " goes eight calls deep at most, it goes " + depth, depth <= 8);
                }
            }
        }

        /** The longest chain of calls from here; a recursion counts once. */
        private int depth(Element from, Set<Element> open, Map<Element, Integer> depths) {
            if (depths.containsKey(from)) {
                return depths.get(from);
            }
            open.add(from);
            int most = 0;
            for (Element next : calls.getOrDefault(from, Set.of())) {
                if (calls.containsKey(next) && !open.contains(next)) {
                    most = Math.max(most, depth(next, open, depths));
                }
            }
            open.remove(from);
            depths.put(from, most + 1);
            return most + 1;
        }
    }
}
