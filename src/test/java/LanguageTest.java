import com.sun.source.tree.AssertTree;
import com.sun.source.tree.ClassTree;
import com.sun.source.tree.CompilationUnitTree;
import com.sun.source.tree.ImportTree;
import com.sun.source.tree.LambdaExpressionTree;
import com.sun.source.tree.LiteralTree;
import com.sun.source.tree.MemberReferenceTree;
import com.sun.source.tree.MemberSelectTree;
import com.sun.source.tree.MethodInvocationTree;
import com.sun.source.tree.MethodTree;
import com.sun.source.tree.NewArrayTree;
import com.sun.source.tree.NewClassTree;
import com.sun.source.tree.SynchronizedTree;
import com.sun.source.tree.ThrowTree;
import com.sun.source.tree.Tree;
import com.sun.source.tree.TryTree;
import com.sun.source.tree.VariableTree;
import com.sun.source.util.JavacTask;
import com.sun.source.util.SourcePositions;
import com.sun.source.util.TreePathScanner;
import com.sun.source.util.TreeScanner;
import com.sun.source.util.Trees;
import java.io.File;
import java.lang.reflect.Constructor;
import java.lang.reflect.Field;
import java.lang.reflect.Method;
import java.lang.reflect.Modifier;
import java.util.ArrayList;
import java.util.Arrays;
import java.util.LinkedHashMap;
import java.util.LinkedHashSet;
import java.util.List;
import java.util.Map;
import java.util.Set;
import java.util.TreeSet;
import javax.lang.model.element.Element;
import javax.tools.JavaCompiler;
import javax.tools.StandardJavaFileManager;
import javax.tools.ToolProvider;

/** The document's face, just so, and the rules of LANGUAGE.md that can be read off the source. */
public final class LanguageTest {
    private static final String FACE = "row(int,int) lay(int,int,int) at(int,int) tear(int) copy(int,int,int,int,int) "
        + "mean(int) text(int,int) put(int,int,int) fault(int) house(int) packet(int,int) mark(int,int) larder(int) "
        + "buy(int,int) week() shrink(int) price(int,int) card(int) undo(int) keep(int) on(int) costs(int,int) "
        + "rate(int) cheapest() larger() least(int,int) weeks(int,int) waste(int) off(int) lasts() looks(int,int) "
        + "kinds(int,int) prices(int,int) grams(int,int,int) shop(int) odds(int,int) mid(int) lots(int,int) asked() "
        + "upper() lower() count(int) finding() findings(int) digest()";
    private static final Set<String> LONGS = Set.of("upper", "lower", "digest");
    private static final Set<String> TYPES = Set.of("int", "long", "short", "byte", "char", "boolean", "int[]", "long[]",
        "boolean[]", "int[][]", "Rows", "Reader", "House", "House[]", "Larder", "Larder[]", "Basket", "Planner");
    private static final Set<String> IMPORTS = Set.of("java.util.Arrays", "java.util.ArrayList", "java.util.List");
    private static final Set<String> LIBRARY = Set.of("Math.min", "Math.max", "Math.abs", "Integer.compare",
        "Arrays.fill", "System.arraycopy");

    private static int wrong = 0;

    private static void check(boolean right, String what) {
        if (!right) {
            wrong++;
            System.out.println(what);
        }
    }

    public static void main(String[] args) throws Exception {
        checkFace();
        checkSource(new File("src/main/java/LargerPacket.java"));
        System.out.println(wrong == 0 ? "the face and the language are as told" : wrong + " rules are broken");
        if (wrong != 0) {
            System.exit(1);
        }
    }

    private static void checkFace() {
        Set<String> open = new TreeSet<>();
        Set<String> closed = new TreeSet<>();
        for (Method m : LargerPacket.class.getDeclaredMethods()) {
            if (m.isSynthetic()) {
                continue;
            }
            if (!Modifier.isPublic(m.getModifiers())) {
                check(Modifier.isPrivate(m.getModifiers()), m.getName() + " is neither public nor private");
                closed.add(m.getName());
                continue;
            }
            String types = Arrays.toString(m.getParameterTypes());
            open.add(m.getName() + "(" + types.substring(1, types.length() - 1).replace(" ", "") + ")");
            check(m.getReturnType() == (LONGS.contains(m.getName()) ? long.class : int.class), m + " answers another type");
            check(!Modifier.isStatic(m.getModifiers()), m + " is static");
        }
        check(open.equals(new TreeSet<>(List.of(FACE.split(" ")))), "the public methods are " + open);
        for (String name : closed) {
            check(open.stream().noneMatch(o -> o.startsWith(name + "(")), name + " is private and public");
        }
        Set<String> constants = new TreeSet<>();
        for (Field f : LargerPacket.class.getDeclaredFields()) {
            if (Modifier.isPublic(f.getModifiers())) {
                constants.add(f.getName());
                check(Modifier.isStatic(f.getModifiers()) && Modifier.isFinal(f.getModifiers()) && f.getType() == int.class,
                    f + " is no constant of int");
            } else {
                check(Modifier.isPrivate(f.getModifiers()) || f.isSynthetic(), f + " is not private");
            }
        }
        check(constants.equals(new TreeSet<>(List.of("BAD", "FULL", "FINDING", "STATE", "SPENT", "NONE"))),
            "the constants are " + constants);
        Constructor<?>[] makers = LargerPacket.class.getDeclaredConstructors();
        check(makers.length == 1 && makers[0].getParameterCount() == 0 && Modifier.isPublic(makers[0].getModifiers()),
            "there is another constructor");
        int shape = LargerPacket.class.getModifiers();
        check(Modifier.isPublic(shape) && Modifier.isFinal(shape), "the class is not public and final");
        for (Class<?> inside : LargerPacket.class.getDeclaredClasses()) {
            check(Modifier.isStatic(inside.getModifiers()) && !Modifier.isPublic(inside.getModifiers())
                && !Modifier.isProtected(inside.getModifiers()), inside + " is not static, or seen outside");
        }
    }

    private static void checkSource(File file) throws Exception {
        JavaCompiler compiler = ToolProvider.getSystemJavaCompiler();
        StandardJavaFileManager files = compiler.getStandardFileManager(null, null, null);
        JavacTask task = (JavacTask) compiler.getTask(null, files, null, null, null, files.getJavaFileObjects(file));
        SourcePositions positions = Trees.instance(task).getSourcePositions();
        Depths depths = new Depths(Trees.instance(task));
        Iterable<? extends CompilationUnitTree> units = task.parse();
        task.analyze();
        for (CompilationUnitTree unit : units) {
            for (ImportTree i : unit.getImports()) {
                check(IMPORTS.contains(i.getQualifiedIdentifier().toString()), "rule 4: " + i);
            }
            new Rules(unit, positions).scan(unit, null);
            depths.scan(unit, null);
        }
        depths.checkAll();
    }

    /** How deep calls go: methods that call one another count once each. */
    private static final class Depths extends TreePathScanner<Void, Void> {
        private static final int DEEPEST = 8;
        private final Trees trees;
        private final Map<Element, Set<Element>> calls = new LinkedHashMap<>();
        private Element caller = null;

        Depths(Trees trees) {
            this.trees = trees;
        }

        @Override
        public Void visitMethod(MethodTree tree, Void none) {
            caller = trees.getElement(getCurrentPath());
            calls.put(caller, new LinkedHashSet<>());
            super.visitMethod(tree, none);
            caller = null;
            return null;
        }

        @Override
        public Void visitMethodInvocation(MethodInvocationTree tree, Void none) {
            note();
            return super.visitMethodInvocation(tree, none);
        }

        @Override
        public Void visitNewClass(NewClassTree tree, Void none) {
            note();
            return super.visitNewClass(tree, none);
        }

        private void note() {
            if (caller != null) {
                calls.get(caller).add(trees.getElement(getCurrentPath()));
            }
        }

        void checkAll() {
            check(calls.size() > 100, "rule 11: only " + calls.size() + " methods were looked at");
            for (Element method : calls.keySet()) {
                List<Element> deepest = deepest(method, new ArrayList<>());
                check(deepest.size() <= DEEPEST, "rule 11: calls go " + deepest.size() + " deep: " + deepest);
            }
        }

        private List<Element> deepest(Element method, List<Element> open) {
            List<Element> best = new ArrayList<>(open);
            best.add(method);
            List<Element> here = best;
            for (Element callee : calls.getOrDefault(method, Set.of())) {
                List<Element> chain = here.contains(callee) ? here : deepest(callee, here);
                best = chain.size() > best.size() ? chain : best;
            }
            return best;
        }
    }

    private static final class Rules extends TreeScanner<Void, Void> {
        private final CompilationUnitTree unit;
        private final SourcePositions positions;
        private int classes = 0;
        private boolean inMethod = false;

        Rules(CompilationUnitTree unit, SourcePositions positions) {
            this.unit = unit;
            this.positions = positions;
        }

        private long line(long position) {
            return unit.getLineMap().getLineNumber(position);
        }

        private void refuse(int rule, Tree tree) {
            check(false, "rule " + rule + ", line " + line(positions.getStartPosition(unit, tree)) + ": " + tree);
        }

        @Override
        public Void visitClass(ClassTree tree, Void none) {
            classes++;
            check(classes == 1 || !inMethod && tree.getModifiers().getFlags().contains(javax.lang.model.element.Modifier.STATIC),
                "rule 2: " + tree.getSimpleName() + " is not static");
            check(classes <= 12, "rule 11: more than twelve classes");
            int fields = 0;
            for (Tree member : tree.getMembers()) {
                if (member instanceof VariableTree field) {
                    boolean isStatic = field.getModifiers().getFlags().contains(javax.lang.model.element.Modifier.STATIC);
                    boolean isFinal = field.getModifiers().getFlags().contains(javax.lang.model.element.Modifier.FINAL);
                    check(!isStatic || isFinal, "rule 5: " + field);
                    fields += isStatic ? 0 : 1;
                }
                check(member.getKind() != Tree.Kind.BLOCK, "rule 5: a block in " + tree.getSimpleName());
            }
            check(fields <= 20, "rule 11: " + fields + " fields in " + tree.getSimpleName());
            return super.visitClass(tree, none);
        }

        @Override
        public Void visitMethod(MethodTree tree, Void none) {
            long lines = line(positions.getEndPosition(unit, tree)) - line(positions.getStartPosition(unit, tree)) + 1;
            check(lines <= 60, "rule 11: " + tree.getName() + " has " + lines + " lines");
            check(tree.getParameters().size() <= 7, "rule 11: " + tree.getName() + " has too many parameters");
            check(!tree.getModifiers().getFlags().contains(javax.lang.model.element.Modifier.PRIVATE)
                || !(" " + FACE).contains(" " + tree.getName() + "("), "rule 1: " + tree.getName() + " is private and public");
            inMethod = !tree.getName().contentEquals("<init>");
            super.visitMethod(tree, none);
            inMethod = false;
            return null;
        }

        @Override
        public Void visitVariable(VariableTree tree, Void none) {
            if (!TYPES.contains(tree.getType().toString())) {
                refuse(3, tree);
            }
            return super.visitVariable(tree, none);
        }

        @Override
        public Void visitThrow(ThrowTree tree, Void none) {
            refuse(6, tree);
            return null;
        }

        @Override
        public Void visitTry(TryTree tree, Void none) {
            refuse(6, tree);
            return null;
        }

        @Override
        public Void visitAssert(AssertTree tree, Void none) {
            refuse(6, tree);
            return null;
        }

        @Override
        public Void visitSynchronized(SynchronizedTree tree, Void none) {
            refuse(6, tree);
            return null;
        }

        @Override
        public Void visitLambdaExpression(LambdaExpressionTree tree, Void none) {
            refuse(2, tree);
            return null;
        }

        @Override
        public Void visitMemberReference(MemberReferenceTree tree, Void none) {
            refuse(2, tree);
            return null;
        }

        @Override
        public Void visitLiteral(LiteralTree tree, Void none) {
            if (tree.getKind() == Tree.Kind.DOUBLE_LITERAL || tree.getKind() == Tree.Kind.STRING_LITERAL) {
                refuse(3, tree);
            }
            return null;
        }

        // All rows are made in constructors, so that no run of calls can fill the room.
        @Override
        public Void visitNewClass(NewClassTree tree, Void none) {
            if (inMethod || tree.getClassBody() != null) {
                refuse(12, tree);
            }
            return super.visitNewClass(tree, none);
        }

        @Override
        public Void visitNewArray(NewArrayTree tree, Void none) {
            if (inMethod) {
                refuse(12, tree);
            }
            return super.visitNewArray(tree, none);
        }

        @Override
        public Void visitMethodInvocation(MethodInvocationTree tree, Void none) {
            if (tree.getMethodSelect() instanceof MemberSelectTree select) {
                String owner = select.getExpression().toString();
                if (Set.of("Math", "Integer", "Long", "Arrays", "System", "String").contains(owner)
                    && !LIBRARY.contains(select.toString())) {
                    refuse(4, tree);
                }
            }
            return super.visitMethodInvocation(tree, none);
        }
    }
}
