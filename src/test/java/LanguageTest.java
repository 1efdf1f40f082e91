import com.sun.source.tree.AssertTree;
import com.sun.source.tree.BinaryTree;
import com.sun.source.tree.ClassTree;
import com.sun.source.tree.CompilationUnitTree;
import com.sun.source.tree.EnhancedForLoopTree;
import com.sun.source.tree.InstanceOfTree;
import com.sun.source.tree.LambdaExpressionTree;
import com.sun.source.tree.MemberReferenceTree;
import com.sun.source.tree.MethodInvocationTree;
import com.sun.source.tree.MethodTree;
import com.sun.source.tree.NewClassTree;
import com.sun.source.tree.SynchronizedTree;
import com.sun.source.tree.ThrowTree;
import com.sun.source.tree.Tree;
import com.sun.source.tree.TryTree;
import com.sun.source.tree.VariableTree;
import com.sun.source.util.JavacTask;
import com.sun.source.util.TreePathScanner;
import com.sun.source.util.Trees;
import java.io.IOException;
import java.lang.reflect.Member;
import java.lang.reflect.Modifier;
import java.nio.file.Files;
import java.nio.file.Path;
import java.util.ArrayList;
import java.util.HashMap;
import java.util.LinkedHashSet;
import java.util.List;
import java.util.Map;
import java.util.Set;
import java.util.TreeSet;
import javax.lang.model.element.Element;
import javax.lang.model.element.ElementKind;
import javax.tools.JavaCompiler;
import javax.tools.JavaFileObject;
import javax.tools.StandardJavaFileManager;
import javax.tools.ToolProvider;

/** What of ../shared/LANGUAGE.md can be seen by looking at the program's own tree. */
public final class LanguageTest {
    private static final Path SOURCE = Path.of("src/main/java/LawnAhead.java");
    private static final Set<String> LIBRARY = Set.of("java.lang.Integer.bitCount", "java.lang.Integer.numberOfTrailingZeros",
        "java.lang.Math.min", "java.lang.Math.max", "java.lang.Math.abs", "java.lang.String.indexOf", "java.lang.System.arraycopy",
        "java.util.Arrays.fill", "java.lang.Object.<init>");
    private static final Set<String> FACE = Set.of("feed", "end", "fault", "text", "rule", "cell", "law", "drought", "grow", "cut",
        "sit", "mole", "games", "undo", "log", "move", "run", "perform", "missing", "threats", "cuts", "answers", "advice", "holds",
        "forced", "meant", "parts", "sumOf", "winning", "fewest", "book", "fit", "tells", "alike", "openings", "odds", "where",
        "room", "longest", "image", "back", "count");

    private final Check check = new Check();
    private final Map<String, Set<String>> calls = new HashMap<>();
    private Trees trees;
    private CompilationUnitTree unit;
    private int classes;

    private void look() throws IOException {
        JavaCompiler compiler = ToolProvider.getSystemJavaCompiler();
        try (StandardJavaFileManager files = compiler.getStandardFileManager(null, null, null)) {
            Iterable<? extends JavaFileObject> sources = files.getJavaFileObjects(SOURCE);
            JavacTask task = (JavacTask) compiler.getTask(null, files, null, List.of("-proc:none"), null, sources);
            unit = task.parse().iterator().next();
            task.analyze();
            trees = Trees.instance(task);
            new Looker().scan(unit, null);
        }
        check.due("twelve classes at most", classes <= 12, true);
        callsAreShallow();
        faceIsTheDocuments();
        for (String line : Files.readAllLines(SOURCE)) {
            check.due("signs 1 to 127: " + line, line.chars().allMatch(c -> c > 0 && c < 128), true);
        }
    }

    private void faceIsTheDocuments() {
        Set<String> open = new TreeSet<>();
        List<Member> members = new ArrayList<>(List.of(LawnAhead.class.getDeclaredMethods()));
        members.addAll(List.of(LawnAhead.class.getDeclaredFields()));
        for (Member member : members) {
            if (!Modifier.isPrivate(member.getModifiers()) && !member.isSynthetic()) {
                open.add(member.getName());
            }
        }
        Set<String> due = new TreeSet<>(FACE);
        due.add("NONE");
        due.add("HIDDEN");
        check.due("the face is " + open, open.equals(due), true);
    }

    private long line(Tree tree, boolean end) {
        long at = end ? trees.getSourcePositions().getEndPosition(unit, tree) : trees.getSourcePositions().getStartPosition(unit, tree);
        return unit.getLineMap().getLineNumber(at);
    }

    private static String name(Element method) {
        return method.getEnclosingElement() + "." + method;
    }

    private final class Looker extends TreePathScanner<Void, Void> {
        private String inside = "";

        private void never(String what, Tree tree) {
            check.due(what + " in line " + line(tree, false), true, false);
        }

        @Override
        public Void visitClass(ClassTree tree, Void none) {
            classes++;
            long fields = tree.getMembers().stream().filter(m -> m instanceof VariableTree v
                && !v.getModifiers().getFlags().contains(javax.lang.model.element.Modifier.STATIC)).count();
            check.due("twenty fields at most in " + tree.getSimpleName(), fields <= 20, true);
            if (classes > 1) {
                check.due("static " + tree.getSimpleName(),
                    tree.getModifiers().getFlags().contains(javax.lang.model.element.Modifier.STATIC), true);
            }
            return super.visitClass(tree, none);
        }

        @Override
        public Void visitMethod(MethodTree tree, Void none) {
            inside = name(trees.getElement(getCurrentPath()));
            calls.computeIfAbsent(inside, k -> new LinkedHashSet<>());
            check.due(inside + " is short", line(tree, true) - line(tree, false) < 60, true);
            check.due(inside + " takes few", tree.getParameters().size() <= 7, true);
            boolean open = tree.getModifiers().getFlags().contains(javax.lang.model.element.Modifier.PUBLIC);
            check.due(inside + " bears a name of its own", open || !FACE.contains(tree.getName().toString()), true);
            return super.visitMethod(tree, none);
        }

        @Override
        public Void visitVariable(VariableTree tree, Void none) {
            Element element = trees.getElement(getCurrentPath());
            if (element.getKind() == ElementKind.FIELD
                && element.getModifiers().contains(javax.lang.model.element.Modifier.STATIC)) {
                check.due(element + " is final", element.getModifiers().contains(javax.lang.model.element.Modifier.FINAL), true);
            }
            return super.visitVariable(tree, none);
        }

        private void called(Element method) {
            String owner = method.getEnclosingElement().toString();
            if (owner.startsWith("LawnAhead")) {
                calls.get(inside).add(name(method));
            } else {
                String full = owner + "." + method.getSimpleName();
                check.due("the library has " + full, LIBRARY.contains(full), true);
            }
        }

        @Override
        public Void visitMethodInvocation(MethodInvocationTree tree, Void none) {
            called(trees.getElement(getCurrentPath()));
            return super.visitMethodInvocation(tree, none);
        }

        @Override
        public Void visitNewClass(NewClassTree tree, Void none) {
            Element made = trees.getElement(getCurrentPath());
            String owner = made.getEnclosingElement().toString();
            check.due("made " + owner, owner.startsWith("LawnAhead") || owner.equals("java.util.NoSuchElementException"), true);
            return super.visitNewClass(tree, none);
        }

        @Override
        public Void visitThrow(ThrowTree tree, Void none) {
            check.due("thrown in " + inside, inside.startsWith("LawnAhead.cell("), true);
            return super.visitThrow(tree, none);
        }

        @Override
        public Void visitBinary(BinaryTree tree, Void none) {
            boolean divides = tree.getKind() == Tree.Kind.DIVIDE || tree.getKind() == Tree.Kind.REMAINDER;
            if (divides && tree.getRightOperand().toString().equals("0")) {
                never("a division by 0", tree);
            }
            return super.visitBinary(tree, none);
        }

        @Override
        public Void visitLambdaExpression(LambdaExpressionTree tree, Void none) {
            never("a lambda", tree);
            return null;
        }

        @Override
        public Void visitMemberReference(MemberReferenceTree tree, Void none) {
            never("a method reference", tree);
            return null;
        }

        @Override
        public Void visitTry(TryTree tree, Void none) {
            never("a try", tree);
            return null;
        }

        @Override
        public Void visitSynchronized(SynchronizedTree tree, Void none) {
            never("synchronized", tree);
            return null;
        }

        @Override
        public Void visitAssert(AssertTree tree, Void none) {
            never("an assert", tree);
            return null;
        }

        @Override
        public Void visitInstanceOf(InstanceOfTree tree, Void none) {
            never("instanceof", tree);
            return null;
        }

        @Override
        public Void visitEnhancedForLoop(EnhancedForLoopTree tree, Void none) {
            never("a for over a list", tree);
            return null;
        }
    }

    /** Methods that can come back to themselves. */
    private boolean reaches(String from, String to, Set<String> seen) {
        for (String next : calls.getOrDefault(from, Set.of())) {
            if (next.equals(to) || seen.add(next) && reaches(next, to, seen)) {
                return true;
            }
        }
        return false;
    }

    private List<String> deepest(String method, Set<String> open) {
        List<String> best = new ArrayList<>();
        open.add(method);
        for (String next : calls.getOrDefault(method, Set.of())) {
            if (!open.contains(next)) {
                List<String> chain = deepest(next, open);
                if (chain.size() > best.size()) {
                    best = chain;
                }
            }
        }
        open.remove(method);
        List<String> all = new ArrayList<>(List.of(method));
        all.addAll(best);
        return all;
    }

    private void callsAreShallow() {
        Set<String> recursive = new TreeSet<>();
        for (String method : calls.keySet()) {
            if (reaches(method, method, new LinkedHashSet<>())) {
                recursive.add(method);
            }
        }
        System.out.println("recursion: " + recursive);
        for (String method : calls.keySet()) {
            List<String> chain = deepest(method, new LinkedHashSet<>());
            chain.removeAll(recursive);
            check.due("eight deep at most: " + chain, chain.size() <= 8, true);
            List<String> whole = deepest(method, new LinkedHashSet<>());
            check.due("ten deep at most with recursion taken once: " + whole, whole.size() <= 10, true);
        }
    }

    public static void main(String[] args) throws IOException {
        LanguageTest test = new LanguageTest();
        test.look();
        test.check.finish();
    }
}
