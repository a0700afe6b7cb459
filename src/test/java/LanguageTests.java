import com.sun.source.tree.ArrayAccessTree;
import com.sun.source.tree.AssignmentTree;
import com.sun.source.tree.BinaryTree;
import com.sun.source.tree.BlockTree;
import com.sun.source.tree.ClassTree;
import com.sun.source.tree.CompilationUnitTree;
import com.sun.source.tree.CompoundAssignmentTree;
import com.sun.source.tree.DoWhileLoopTree;
import com.sun.source.tree.ExpressionStatementTree;
import com.sun.source.tree.ExpressionTree;
import com.sun.source.tree.ForLoopTree;
import com.sun.source.tree.IdentifierTree;
import com.sun.source.tree.MemberSelectTree;
import com.sun.source.tree.MethodInvocationTree;
import com.sun.source.tree.MethodTree;
import com.sun.source.tree.NewClassTree;
import com.sun.source.tree.ParenthesizedTree;
import com.sun.source.tree.Tree;
import com.sun.source.tree.UnaryTree;
import com.sun.source.tree.VariableTree;
import com.sun.source.tree.WhileLoopTree;
import com.sun.source.util.JavacTask;
import com.sun.source.util.TreePath;
import com.sun.source.util.TreePathScanner;
import com.sun.source.util.TreeScanner;
import com.sun.source.util.Trees;
import java.io.IOException;
import java.lang.reflect.Modifier;
import java.nio.file.Files;
import java.nio.file.Path;
import java.util.ArrayList;
import java.util.Arrays;
import java.util.HashSet;
import java.util.LinkedHashMap;
import java.util.LinkedHashSet;
import java.util.List;
import java.util.Map;
import java.util.Set;
import java.util.TreeSet;
import java.util.regex.Matcher;
import java.util.regex.Pattern;
import javax.lang.model.element.Element;
import javax.lang.model.element.ElementKind;
import javax.lang.model.type.TypeKind;
import javax.tools.JavaCompiler;
import javax.tools.StandardJavaFileManager;
import javax.tools.ToolProvider;

/** Those rules of ../shared/LANGUAGE.md that can be read off the source, and the face that the document tells. */
public final class LanguageTests {
    private static final Path SOURCE = Path.of("src/main/java/ThrownBack.java");
    private static final Path DOCUMENT = Path.of("../shared/DOC.md");
    private static final Set<Tree.Kind> REFUSED = Set.of(Tree.Kind.THROW, Tree.Kind.TRY, Tree.Kind.CATCH,
            Tree.Kind.SYNCHRONIZED, Tree.Kind.ASSERT, Tree.Kind.LAMBDA_EXPRESSION, Tree.Kind.MEMBER_REFERENCE,
            Tree.Kind.IMPORT, Tree.Kind.PACKAGE);
    private static final Set<String> LIBRARY = Set.of("String.length", "String.charAt", "String.indexOf",
            "Math.min", "Math.max", "System.arraycopy");

    private LanguageTests() { }

    public static void main(String[] args) throws IOException {
        face();
        JavaCompiler compiler = ToolProvider.getSystemJavaCompiler();
        try (StandardJavaFileManager files = compiler.getStandardFileManager(null, null, null)) {
            JavacTask task = (JavacTask) compiler.getTask(null, files, null, List.of("-proc:none"), null,
                    files.getJavaFileObjects(SOURCE));
            CompilationUnitTree unit = task.parse().iterator().next();
            task.analyze();
            Rules rules = new Rules(Trees.instance(task), unit);
            rules.scan(unit, null);
            rules.end();
        }
        Check.end("LanguageTests");
    }

    private static void face() throws IOException {
        String all = Files.readString(DOCUMENT);
        String told = all.substring(all.indexOf("```java") + 7);
        told = told.substring(0, told.indexOf("```"));
        Set<String> due = new TreeSet<>();
        Matcher m = Pattern.compile("public (int|long) (\\w+)\\((.*?)\\);").matcher(told);
        while (m.find()) {
            due.add(m.group(1) + " " + m.group(2) + " " + m.group(3).replaceAll(" \\w+(,|$)", "$1"));
        }
        Check.due("methods of the document's face", due.size(), 34);
        Set<String> got = new TreeSet<>();
        Arrays.stream(ThrownBack.class.getDeclaredMethods()).filter(f -> !Modifier.isPrivate(f.getModifiers())).forEach(f -> {
            String types = String.join(", ", Arrays.stream(f.getParameterTypes()).map(Class::getName).toList());
            got.add(f.getReturnType().getName() + " " + f.getName() + " " + types);
            Check.holds(f.getName() + " is public alone", f.getModifiers() == Modifier.PUBLIC);
        });
        Check.holds("the face is " + got + ", due is " + due, got.equals(due));
        List<String> fields = Arrays.stream(ThrownBack.class.getDeclaredFields())
                .filter(f -> !Modifier.isPrivate(f.getModifiers())).map(f -> f.getName()).sorted().toList();
        Check.holds("the constants are " + fields, fields.equals(List.of("BAD", "FULL", "NO", "NONE", "STATE")));
        long[] values = {ThrownBack.NONE, ThrownBack.BAD, ThrownBack.STATE, ThrownBack.FULL, ThrownBack.NO};
        Check.holds("the constants' values", Arrays.equals(values, new long[] {-1, -2, -3, -4, -4611686018427387904L}));
        Check.holds("a final class", Modifier.isFinal(ThrownBack.class.getModifiers()));
        Check.due("constructors", ThrownBack.class.getDeclaredConstructors().length, 1);
    }

    private static final class Rules extends TreePathScanner<Void, Void> {
        private final Trees trees;
        private final CompilationUnitTree unit;
        private final Map<Element, Set<Element>> calls = new LinkedHashMap<>();
        private Element inside;
        private int classes;

        Rules(Trees trees, CompilationUnitTree unit) {
            this.trees = trees;
            this.unit = unit;
        }

        private long line(long position) {
            return unit.getLineMap().getLineNumber(position);
        }

        @Override
        public Void scan(Tree tree, Void unused) {
            if (tree != null && REFUSED.contains(tree.getKind())) {
                Check.holds("no " + tree.getKind() + ": " + tree, false);
            }
            return super.scan(tree, unused);
        }

        @Override
        public Void visitClass(ClassTree tree, Void unused) {
            classes++;
            int fields = 0;
            for (Tree member : tree.getMembers()) {
                boolean isField = member instanceof VariableTree;
                Set<javax.lang.model.element.Modifier> flags = isField ? ((VariableTree) member).getModifiers().getFlags() : Set.of();
                boolean isStatic = flags.contains(javax.lang.model.element.Modifier.STATIC);
                fields += isField && !isStatic ? 1 : 0;
                Check.holds("static is final: " + member, !isStatic || flags.contains(javax.lang.model.element.Modifier.FINAL));
                Check.holds("no initialiser block", !(member instanceof BlockTree));
            }
            Check.holds("some twenty fields at most in " + tree.getSimpleName(), fields <= 20);
            if (classes > 1) {
                Check.holds(tree.getSimpleName() + " is static", tree.getModifiers().getFlags()
                        .contains(javax.lang.model.element.Modifier.STATIC));
                Check.holds(tree.getSimpleName() + " stands in the class", getCurrentPath().getParentPath().getLeaf() instanceof ClassTree);
            }
            return super.visitClass(tree, unused);
        }

        @Override
        public Void visitMethod(MethodTree tree, Void unused) {
            inside = trees.getElement(getCurrentPath());
            calls.putIfAbsent(inside, new LinkedHashSet<>());
            long first = line(trees.getSourcePositions().getStartPosition(unit, tree));
            long last = line(trees.getSourcePositions().getEndPosition(unit, tree));
            Check.holds(tree.getName() + " is of sixty lines at most", last - first < 60);
            Check.holds(tree.getName() + " takes seven at most", tree.getParameters().size() <= 7);
            super.visitMethod(tree, unused);
            inside = null;
            return null;
        }

        @Override
        public Void visitMethodInvocation(MethodInvocationTree tree, Void unused) {
            called(trees.getElement(new TreePath(getCurrentPath(), tree.getMethodSelect())));
            return super.visitMethodInvocation(tree, unused);
        }

        @Override
        public Void visitNewClass(NewClassTree tree, Void unused) {
            Check.holds("no class of its own: " + tree, tree.getClassBody() == null);
            called(trees.getElement(getCurrentPath()));
            return super.visitNewClass(tree, unused);
        }

        private void called(Element method) {
            if (trees.getPath(method) != null || isMade(method)) {
                if (inside != null) {
                    calls.get(inside).add(method);
                }
                return;
            }
            String name = method.getEnclosingElement().getSimpleName() + "." + method.getSimpleName();
            Check.holds("in the library that is left: " + name, LIBRARY.contains(name) || name.equals("Object.<init>"));
        }

        private static boolean isMade(Element method) {
            return method.getKind() == ElementKind.CONSTRUCTOR && method.getEnclosingElement().toString().startsWith("ThrownBack");
        }

        @Override
        public Void visitMemberSelect(MemberSelectTree tree, Void unused) {
            Element one = trees.getElement(getCurrentPath());
            if (one != null && one.getKind() == ElementKind.FIELD && one.getEnclosingElement() != null) {
                String home = one.getEnclosingElement().toString();
                Check.holds("a field of one's own: " + tree, home.startsWith("ThrownBack") || home.equals("Array"));
            }
            return super.visitMemberSelect(tree, unused);
        }

        @Override
        public Void visitBinary(BinaryTree tree, Void unused) {
            if (tree.getKind() == Tree.Kind.PLUS) {
                Check.holds("no texts joined by +: " + tree, isNumber(tree));
            }
            if (tree.getKind() == Tree.Kind.EQUAL_TO || tree.getKind() == Tree.Kind.NOT_EQUAL_TO) {
                Check.holds("numbers, not texts, compared by == or !=: " + tree, isNumber(tree.getLeftOperand()));
            }
            return super.visitBinary(tree, unused);
        }

        @Override
        public Void visitForLoop(ForLoopTree tree, Void unused) {
            Set<String> steps = stepped(tree.getUpdate());
            endIsSeen(tree, tree.getCondition(), steps);
            Set<String> inside = new HashSet<>(assigned(tree.getStatement()));
            inside.retainAll(steps);
            Check.holds("a counter is left to its loop: " + inside + " in " + tree, inside.isEmpty());
            return super.visitForLoop(tree, unused);
        }

        @Override
        public Void visitWhileLoop(WhileLoopTree tree, Void unused) {
            endIsSeen(tree, tree.getCondition(), stepped(List.of(tree.getStatement())));
            return super.visitWhileLoop(tree, unused);
        }

        @Override
        public Void visitDoWhileLoop(DoWhileLoopTree tree, Void unused) {
            endIsSeen(tree, tree.getCondition(), stepped(List.of(tree.getStatement())));
            return super.visitDoWhileLoop(tree, unused);
        }

        /** Rule 9: a counter that goes on by 1 each time is held against a bound, and nothing else makes the loop go on. */
        private void endIsSeen(Tree loop, ExpressionTree condition, Set<String> steps) {
            Check.holds("a loop with an end that can be seen: " + loop, condition != null && isBound(condition, steps));
        }

        private static boolean isBound(ExpressionTree condition, Set<String> steps) {
            if (condition instanceof ParenthesizedTree inner) {
                return isBound(inner.getExpression(), steps);
            }
            if (!(condition instanceof BinaryTree two)) {
                return false;
            }
            switch (two.getKind()) {
                case CONDITIONAL_AND:
                    return isBound(two.getLeftOperand(), steps) || isBound(two.getRightOperand(), steps);
                case LESS_THAN:
                case LESS_THAN_EQUAL:
                    return steps.contains("up " + two.getLeftOperand());
                case GREATER_THAN:
                case GREATER_THAN_EQUAL:
                    return steps.contains("down " + two.getLeftOperand());
                default:
                    return false;
            }
        }

        /** Which names these statements, one after the other and under no condition, count up or down. */
        private static Set<String> stepped(List<? extends Tree> statements) {
            Set<String> names = new HashSet<>();
            for (Tree one : statements) {
                Tree bare = one instanceof ExpressionStatementTree e ? e.getExpression() : one;
                if (bare instanceof BlockTree block) {
                    names.addAll(stepped(block.getStatements()));
                } else if (bare instanceof UnaryTree unary) {
                    boolean isUp = bare.getKind() == Tree.Kind.POSTFIX_INCREMENT || bare.getKind() == Tree.Kind.PREFIX_INCREMENT;
                    names.add((isUp ? "up " : "down ") + unary.getExpression());
                }
            }
            return names;
        }

        /** The names that a loop's body changes, wherever it does, as stepped() says them. */
        private static Set<String> assigned(Tree body) {
            Set<String> names = new HashSet<>();
            new TreeScanner<Void, Void>() {
                private void add(ExpressionTree name) {
                    names.add("up " + name);
                    names.add("down " + name);
                }

                @Override
                public Void visitAssignment(AssignmentTree tree, Void unused) {
                    add(tree.getVariable());
                    return super.visitAssignment(tree, unused);
                }

                @Override
                public Void visitCompoundAssignment(CompoundAssignmentTree tree, Void unused) {
                    add(tree.getVariable());
                    return super.visitCompoundAssignment(tree, unused);
                }

                @Override
                public Void visitUnary(UnaryTree tree, Void unused) {
                    if (tree.getKind() != Tree.Kind.UNARY_MINUS && tree.getKind() != Tree.Kind.LOGICAL_COMPLEMENT) {
                        add(tree.getExpression());
                    }
                    return super.visitUnary(tree, unused);
                }
            }.scan(body, null);
            return names;
        }

        @Override
        public Void visitAssignment(AssignmentTree tree, Void unused) {
            if (tree.getVariable() instanceof ArrayAccessTree place && place.getExpression() instanceof IdentifierTree row) {
                Element one = trees.getElement(TreePath.getPath(getCurrentPath(), row));
                boolean isStatic = one.getModifiers().contains(javax.lang.model.element.Modifier.STATIC);
                Check.holds("a static array is never changed: " + tree, !isStatic);
            }
            return super.visitAssignment(tree, unused);
        }

        @Override
        public Void visitCompoundAssignment(CompoundAssignmentTree tree, Void unused) {
            Check.holds("a number: " + tree, isNumber(tree));
            return super.visitCompoundAssignment(tree, unused);
        }

        private boolean isNumber(Tree tree) {
            TypeKind kind = trees.getTypeMirror(TreePath.getPath(getCurrentPath(), tree)).getKind();
            return kind.isPrimitive();
        }

        void end() {
            Check.holds("some twelve classes at most", classes <= 12);
            Set<String> face = new HashSet<>();
            Set<String> hidden = new HashSet<>();
            for (Element method : calls.keySet()) {
                boolean isOpen = method.getModifiers().contains(javax.lang.model.element.Modifier.PUBLIC);
                (isOpen ? face : hidden).add(method.getSimpleName().toString());
            }
            face.remove("<init>");
            hidden.retainAll(face);
            Check.holds("no other method bears a public one's name: " + hidden, hidden.isEmpty());
            for (Element method : calls.keySet()) {
                int deep = deepest(method, new ArrayList<>());
                Check.holds(method + " goes eight deep at most, goes " + deep, deep <= 8);
            }
        }

        /** How many calls stand open at most, those that call one another counted once. */
        private int deepest(Element method, List<Element> open) {
            open.add(method);
            int deep = 0;
            for (Element next : calls.getOrDefault(method, Set.of())) {
                if (!open.contains(next)) {
                    deep = Math.max(deep, deepest(next, open));
                }
            }
            open.remove(open.size() - 1);
            boolean isCounted = open.stream().anyMatch(other -> reaches(other, method) && reaches(method, other));
            return isCounted ? deep : deep + 1;
        }

        private boolean reaches(Element from, Element to) {
            Set<Element> seen = new HashSet<>();
            List<Element> next = new ArrayList<>(calls.getOrDefault(from, Set.of()));
            while (!next.isEmpty()) {
                Element one = next.remove(next.size() - 1);
                if (one.equals(to)) {
                    return true;
                }
                if (seen.add(one)) {
                    next.addAll(calls.getOrDefault(one, Set.of()));
                }
            }
            return false;
        }
    }
}
