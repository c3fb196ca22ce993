import com.sun.source.tree.BinaryTree;
import com.sun.source.tree.BlockTree;
import com.sun.source.tree.ClassTree;
import com.sun.source.tree.CompilationUnitTree;
import com.sun.source.tree.ImportTree;
import com.sun.source.tree.MethodInvocationTree;
import com.sun.source.tree.MethodTree;
import com.sun.source.tree.NewArrayTree;
import com.sun.source.tree.NewClassTree;
import com.sun.source.tree.Tree;
import com.sun.source.tree.TypeCastTree;
import com.sun.source.tree.VariableTree;
import com.sun.source.util.JavacTask;
import com.sun.source.util.TreePathScanner;
import com.sun.source.util.Trees;
import java.io.IOException;
import java.nio.file.Path;
import java.util.ArrayList;
import java.util.HashSet;
import java.util.LinkedHashMap;
import java.util.LinkedHashSet;
import java.util.List;
import java.util.Map;
import java.util.Set;
import javax.lang.model.element.Element;
import javax.lang.model.element.ElementKind;
import javax.lang.model.element.ExecutableElement;
import javax.lang.model.element.Modifier;
import javax.lang.model.element.TypeElement;
import javax.lang.model.type.TypeKind;
import javax.tools.JavaCompiler;
import javax.tools.StandardJavaFileManager;
import javax.tools.ToolProvider;

/** Those rules of LANGUAGE.md that can be read off the program's tree. A fault tells its line and the rule's number. */
public final class LanguageTest {
    private static final Path SOURCE = Path.of("src/main/java/ShootingDays.java");
    private static final int MOST_DEEP = 8;

    public static void main(String[] args) throws IOException {
        JavaCompiler compiler = ToolProvider.getSystemJavaCompiler();
        List<String> faults;
        try (StandardJavaFileManager files = compiler.getStandardFileManager(null, null, null)) {
            JavacTask task = (JavacTask) compiler.getTask(null, files, null, List.of("-proc:none", "--release", "17"),
                null, files.getJavaFileObjects(SOURCE));
            CompilationUnitTree unit = task.parse().iterator().next();
            task.analyze();
            Rules rules = new Rules(Trees.instance(task), unit);
            rules.scan(unit, null);
            rules.checkDepth();
            rules.checkNames();
            faults = rules.faults;
        }
        faults.forEach(System.out::println);
        System.out.println(faults.isEmpty() ? "the rules are kept" : faults.size() + " faults");
        if (!faults.isEmpty()) {
            System.exit(1);
        }
    }

    private static final class Rules extends TreePathScanner<Void, Void> {
        private static final Set<String> LIBRARY = Set.of("java.lang.System.arraycopy", "java.util.Arrays.copyOf",
            "java.util.Arrays.copyOfRange", "java.util.Arrays.fill");
        private static final Set<String> WITH_STATIC_FUNCTIONS =
            Set.of("java.lang.Math", "java.lang.Integer", "java.lang.Long");
        private static final Set<String> TYPES = Set.of("java.lang.String", "java.lang.StringBuilder",
            "java.lang.Integer", "java.util.ArrayList", "java.util.List");

        private static final Map<Tree.Kind, Integer> BANNED = Map.of(Tree.Kind.LAMBDA_EXPRESSION, 2,
            Tree.Kind.MEMBER_REFERENCE, 2, Tree.Kind.THROW, 6, Tree.Kind.TRY, 6, Tree.Kind.SYNCHRONIZED, 6,
            Tree.Kind.ASSERT, 6);

        final List<String> faults = new ArrayList<>();
        private final Trees trees;
        private final CompilationUnitTree unit;
        private final Map<ExecutableElement, Set<ExecutableElement>> calls = new LinkedHashMap<>();
        private ExecutableElement method;
        private int classes;

        Rules(Trees trees, CompilationUnitTree unit) {
            this.trees = trees;
            this.unit = unit;
        }

        private long lineOf(long position) {
            return unit.getLineMap().getLineNumber(position);
        }

        private long firstLine(Tree tree) {
            return lineOf(trees.getSourcePositions().getStartPosition(unit, tree));
        }

        private long lastLine(Tree tree) {
            return lineOf(trees.getSourcePositions().getEndPosition(unit, tree));
        }

        private void must(boolean holds, Tree tree, int rule, String fault) {
            if (!holds) {
                faults.add("line " + firstLine(tree) + ", rule " + rule + ": " + fault);
            }
        }

        private Element here() {
            return trees.getElement(getCurrentPath());
        }

        private static boolean isOwn(Element element) {
            Element outermost = element;
            while (outermost.getEnclosingElement() != null
                && outermost.getEnclosingElement().getKind() != ElementKind.PACKAGE) {
                outermost = outermost.getEnclosingElement();
            }
            return outermost.getSimpleName().contentEquals("ShootingDays");
        }

        @Override
        public Void scan(Tree tree, Void nothing) {
            if (tree != null && BANNED.containsKey(tree.getKind())) {
                must(false, tree, BANNED.get(tree.getKind()), tree.getKind().toString());
            }
            return super.scan(tree, nothing);
        }

        @Override
        public Void visitImport(ImportTree tree, Void nothing) {
            must(tree.toString().matches("import java\\.util\\.(ArrayList|List|Arrays|Iterator);\\s*"), tree, 4, "an import");
            return super.visitImport(tree, nothing);
        }

        @Override
        public Void visitClass(ClassTree tree, Void nothing) {
            classes++;
            must(classes <= 12, tree, 11, "more than twelve classes");
            TypeElement type = (TypeElement) here();
            boolean inside = type.getEnclosingElement().getKind() != ElementKind.PACKAGE;
            must(!inside || type.getModifiers().contains(Modifier.STATIC), tree, 2, "a class inside that is not static");
            long fields = type.getEnclosedElements().stream()
                .filter(one -> one.getKind() == ElementKind.FIELD && !one.getModifiers().contains(Modifier.STATIC)).count();
            must(fields <= 20, tree, 11, "more than twenty fields");
            return super.visitClass(tree, nothing);
        }

        @Override
        public Void visitMethod(MethodTree tree, Void nothing) {
            method = (ExecutableElement) here();
            calls.computeIfAbsent(method, one -> new LinkedHashSet<>());
            must(tree.getParameters().size() <= 7, tree, 11, "more than seven parameters");
            must(lastLine(tree) - firstLine(tree) < 60, tree, 11, "a long method");
            super.visitMethod(tree, nothing);
            method = null;
            return null;
        }

        @Override
        public Void visitMethodInvocation(MethodInvocationTree tree, Void nothing) {
            checkCall(tree, (ExecutableElement) here());
            return super.visitMethodInvocation(tree, nothing);
        }

        private void checkCall(Tree tree, ExecutableElement called) {
            if (isOwn(called)) {
                if (method != null) {
                    calls.get(method).add(called);
                }
                return;
            }
            String owner = called.getEnclosingElement().toString();
            String name = called.getSimpleName().toString();
            boolean isStatic = called.getModifiers().contains(Modifier.STATIC);
            boolean fine = LIBRARY.contains(owner + "." + name)
                || WITH_STATIC_FUNCTIONS.contains(owner) && isStatic && !name.endsWith("Exact")
                || name.equals("<init>") && owner.equals("java.lang.Object");
            must(fine, tree, 4, owner + "." + name + " is not in this test's part of the library");
        }

        @Override
        public Void visitNewClass(NewClassTree tree, Void nothing) {
            must(tree.getClassBody() == null, tree, 2, "a class without a name");
            checkMaking(tree);
            checkCall(tree, (ExecutableElement) here());
            return super.visitNewClass(tree, nothing);
        }

        @Override
        public Void visitNewArray(NewArrayTree tree, Void nothing) {
            checkMaking(tree);
            return super.visitNewArray(tree, nothing);
        }

        /** More than the rule asks: this program makes all it needs with its object, and no call makes anything. */
        private void checkMaking(Tree tree) {
            must(method == null || method.getKind() == ElementKind.CONSTRUCTOR, tree, 12, "a call makes an object");
        }

        @Override
        public Void visitVariable(VariableTree tree, Void nothing) {
            Set<Modifier> modifiers = tree.getModifiers().getFlags();
            must(!modifiers.contains(Modifier.STATIC) || modifiers.contains(Modifier.FINAL), tree, 5, "a static that changes");
            String type = here().asType().toString();
            String element = type.replaceAll("\\[\\]|<.*>", "");
            boolean isNumber = !element.contains(".") && Character.isLowerCase(element.charAt(0));
            must(isNumber || element.startsWith("ShootingDays") || TYPES.contains(element), tree, 3, "the type " + type);
            int dimensions = (type.length() - type.replace("[]", "").length()) / 2;
            must(dimensions < 2 || dimensions == 2 && isNumber, tree, 3, "the type " + type);
            return super.visitVariable(tree, nothing);
        }

        @Override
        public Void visitBlock(BlockTree tree, Void nothing) {
            must(!tree.isStatic(), tree, 5, "a static block");
            return super.visitBlock(tree, nothing);
        }

        @Override
        public Void visitBinary(BinaryTree tree, Void nothing) {
            boolean joins = tree.getKind() == Tree.Kind.PLUS
                && trees.getTypeMirror(getCurrentPath()).getKind() == TypeKind.DECLARED;
            must(!joins, tree, 10, "texts joined by +");
            return super.visitBinary(tree, nothing);
        }

        @Override
        public Void visitTypeCast(TypeCastTree tree, Void nothing) {
            must(trees.getTypeMirror(getCurrentPath()).getKind().isPrimitive(), tree, 6, "a cast of an object");
            return super.visitTypeCast(tree, nothing);
        }

        /** Rule 11; a method that calls itself, by others too, counts once. */
        void checkDepth() {
            for (ExecutableElement start : calls.keySet()) {
                List<String> longest = longestFrom(start, new HashSet<>());
                if (longest.size() > MOST_DEEP) {
                    faults.add("rule 11: " + longest.size() + " calls deep: " + String.join(" > ", longest));
                }
            }
        }

        /** Rule 1, read for the classes inside too. */
        void checkNames() {
            Set<String> face = new HashSet<>();
            for (ExecutableElement one : calls.keySet()) {
                if (one.getKind() == ElementKind.METHOD && one.getModifiers().contains(Modifier.PUBLIC)) {
                    face.add(one.getSimpleName().toString());
                }
            }
            for (ExecutableElement one : calls.keySet()) {
                if (!one.getModifiers().contains(Modifier.PUBLIC) && face.contains(one.getSimpleName().toString())) {
                    faults.add("rule 1: " + one + " has a name of the face");
                }
            }
        }

        private List<String> longestFrom(ExecutableElement from, Set<ExecutableElement> open) {
            open.add(from);
            List<String> longest = List.of();
            for (ExecutableElement called : calls.getOrDefault(from, Set.of())) {
                List<String> chain = open.contains(called) ? List.of() : longestFrom(called, open);
                longest = chain.size() > longest.size() ? chain : longest;
            }
            open.remove(from);
            List<String> all = new ArrayList<>(List.of(from.getSimpleName().toString()));
            all.addAll(longest);
            return all;
        }
    }
}
