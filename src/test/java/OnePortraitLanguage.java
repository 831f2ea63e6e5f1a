import com.sun.source.tree.*;
import com.sun.source.util.JavacTask;
import com.sun.source.util.SourcePositions;
import com.sun.source.util.TreeScanner;
import com.sun.source.util.TreePath;
import com.sun.source.util.TreePathScanner;
import com.sun.source.util.Trees;
import java.io.File;
import java.util.ArrayList;
import java.util.EnumSet;
import java.util.HashMap;
import java.util.LinkedHashSet;
import java.util.List;
import java.util.Map;
import java.util.Set;
import javax.lang.model.element.Element;
import javax.lang.model.element.ElementKind;
import javax.lang.model.element.Modifier;
import javax.tools.JavaCompiler;
import javax.tools.StandardJavaFileManager;
import javax.tools.ToolProvider;

// The rules of ../shared/LANGUAGE.md that a program can look at, looked at in src/main/java/OnePortrait.java. Where that
// program needs less than a rule allows (no while, no texts, no casts, nothing made outside constructors), less passes.
public final class OnePortraitLanguage {
    private static final String SOURCE = "src/main/java/OnePortrait.java";
    private static final Set<Tree.Kind> FORBIDDEN = EnumSet.of(Tree.Kind.THROW, Tree.Kind.TRY, Tree.Kind.CATCH,
            Tree.Kind.SYNCHRONIZED, Tree.Kind.ASSERT, Tree.Kind.LAMBDA_EXPRESSION, Tree.Kind.MEMBER_REFERENCE,
            Tree.Kind.IMPORT, Tree.Kind.PACKAGE, Tree.Kind.TYPE_CAST);
    private static final Set<String> LIBRARY = Set.of("Math.max", "Math.min", "Math.abs");

    private static int wrong = 0;
    private static Trees trees;
    private static CompilationUnitTree unit;
    private static final Map<String, Set<String>> calls = new HashMap<>();
    private static final Map<String, Integer> depths = new HashMap<>();
    private static int classes = 0;

    private static void fault(int rule, String what) {
        wrong++;
        System.out.println("LANGUAGE.md, rule " + rule + ": " + what);
    }

    private static int lines(Tree tree) {
        SourcePositions positions = trees.getSourcePositions();
        LineMap map = unit.getLineMap();
        return (int) (map.getLineNumber(positions.getEndPosition(unit, tree))
                - map.getLineNumber(positions.getStartPosition(unit, tree)) + 1);
    }

    private static String nameOf(Element method) {
        return method.getEnclosingElement().getSimpleName() + "." + method.getSimpleName();
    }

    private static final class Look extends TreePathScanner<Void, Void> {
        private String inside = "";
        private boolean making = false;

        @Override
        public Void scan(Tree tree, Void unused) {
            if (tree != null && FORBIDDEN.contains(tree.getKind())) {
                fault(6, tree.getKind() + " in " + inside + ": " + tree);
            }
            return super.scan(tree, unused);
        }

        @Override
        public Void visitClass(ClassTree tree, Void unused) {
            classes++;
            Element element = trees.getElement(getCurrentPath());
            boolean nested = element.getEnclosingElement().getKind() == ElementKind.CLASS;
            if (nested && !element.getModifiers().contains(Modifier.STATIC)) {
                fault(2, tree.getSimpleName() + " is not static");
            }
            int fields = 0;
            for (Tree member : tree.getMembers()) {
                if (member instanceof VariableTree field) {
                    Set<Modifier> flags = field.getModifiers().getFlags();
                    fields += flags.contains(Modifier.STATIC) ? 0 : 1;
                    if (flags.contains(Modifier.STATIC) && !flags.contains(Modifier.FINAL)) {
                        fault(5, field.getName() + " is static and not final");
                    }
                } else if (member instanceof BlockTree) {
                    fault(5, "a block of its own in " + tree.getSimpleName());
                }
            }
            if (fields > 20) {
                fault(11, fields + " fields in " + tree.getSimpleName());
            }
            return super.visitClass(tree, unused);
        }

        @Override
        public Void visitMethod(MethodTree tree, Void unused) {
            Element element = trees.getElement(getCurrentPath());
            inside = nameOf(element);
            making = element.getKind() == ElementKind.CONSTRUCTOR;
            calls.computeIfAbsent(inside, n -> new LinkedHashSet<>());
            if (tree.getParameters().size() > 7) {
                fault(11, tree.getParameters().size() + " parameters of " + inside);
            }
            if (lines(tree) > 60) {
                fault(11, lines(tree) + " lines of " + inside);
            }
            return super.visitMethod(tree, unused);
        }

        @Override
        public Void visitMethodInvocation(MethodInvocationTree tree, Void unused) {
            Element called = trees.getElement(new TreePath(getCurrentPath(), tree.getMethodSelect()));
            if (called.getKind() == ElementKind.CONSTRUCTOR) {
                return super.visitMethodInvocation(tree, unused);
            }
            String name = nameOf(called);
            boolean own = trees.getTree(called) != null;
            if (own) {
                calls.get(inside).add(name);
            } else if (!LIBRARY.contains(name)) {
                fault(4, name + " in " + inside);
            }
            if (own && making) {
                fault(12, inside + " calls " + name);
            }
            return super.visitMethodInvocation(tree, unused);
        }

        @Override
        public Void visitNewClass(NewClassTree tree, Void unused) {
            newOne(tree, tree.getClassBody() != null);
            return super.visitNewClass(tree, unused);
        }

        @Override
        public Void visitNewArray(NewArrayTree tree, Void unused) {
            newOne(tree, false);
            return super.visitNewArray(tree, unused);
        }

        private void newOne(Tree tree, boolean anonymous) {
            if (!making) {
                fault(12, tree + " outside a constructor, in " + inside);
            }
            if (anonymous) {
                fault(2, tree + " is anonymous");
            }
        }

        @Override
        public Void visitLiteral(LiteralTree tree, Void unused) {
            if (tree.getKind() == Tree.Kind.STRING_LITERAL) {
                fault(10, "a text: " + tree);
            }
            return super.visitLiteral(tree, unused);
        }

        @Override
        public Void visitWhileLoop(WhileLoopTree tree, Void unused) {
            fault(9, "a while loop in " + inside);
            return super.visitWhileLoop(tree, unused);
        }
    }

    /** How many calls stand open at once at most, the method's own too. */
    private static int depth(String method, List<String> open) {
        if (open.contains(method)) {
            fault(8, method + " calls itself by " + open);
            return 0;
        }
        Integer known = depths.get(method);
        if (known != null) {
            return known;
        }
        List<String> further = new ArrayList<>(open);
        further.add(method);
        int deepest = 0;
        for (String called : calls.getOrDefault(method, Set.of())) {
            deepest = Math.max(deepest, depth(called, further));
        }
        depths.put(method, deepest + 1);
        return deepest + 1;
    }

    public static void main(String[] args) throws Exception {
        JavaCompiler compiler = ToolProvider.getSystemJavaCompiler();
        try (StandardJavaFileManager files = compiler.getStandardFileManager(null, null, null)) {
            JavacTask task = (JavacTask) compiler.getTask(null, files, null, List.of("-proc:none"), null,
                    files.getJavaFileObjects(new File(SOURCE)));
            trees = Trees.instance(task);
            List<CompilationUnitTree> units = new ArrayList<>();
            task.parse().forEach(units::add);
            task.analyze();
            unit = units.get(0);
            new Look().scan(unit, null);
        }
        for (String method : calls.keySet()) {
            int deep = depth(method, List.of());
            if (deep > 8) {
                fault(11, method + " goes " + deep + " deep");
            }
        }
        if (classes > 12) {
            fault(11, classes + " classes");
        }
        System.out.println(wrong == 0 ? "the language is as due" : wrong + " things of the language are not as due");
        if (wrong != 0) {
            System.exit(1);
        }
    }
}
