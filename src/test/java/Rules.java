import com.sun.source.tree.AnnotationTree;
import com.sun.source.tree.AssertTree;
import com.sun.source.tree.BinaryTree;
import com.sun.source.tree.BlockTree;
import com.sun.source.tree.ClassTree;
import com.sun.source.tree.CompilationUnitTree;
import com.sun.source.tree.DoWhileLoopTree;
import com.sun.source.tree.EnhancedForLoopTree;
import com.sun.source.tree.ExpressionTree;
import com.sun.source.tree.ForLoopTree;
import com.sun.source.tree.IdentifierTree;
import com.sun.source.tree.ImportTree;
import com.sun.source.tree.LambdaExpressionTree;
import com.sun.source.tree.MemberReferenceTree;
import com.sun.source.tree.MemberSelectTree;
import com.sun.source.tree.MethodInvocationTree;
import com.sun.source.tree.MethodTree;
import com.sun.source.tree.NewArrayTree;
import com.sun.source.tree.NewClassTree;
import com.sun.source.tree.SynchronizedTree;
import com.sun.source.tree.ThrowTree;
import com.sun.source.tree.Tree;
import com.sun.source.tree.TryTree;
import com.sun.source.tree.VariableTree;
import com.sun.source.tree.WhileLoopTree;
import com.sun.source.util.JavacTask;
import com.sun.source.util.TreeScanner;
import java.io.IOException;
import java.io.UncheckedIOException;
import java.net.URI;
import java.util.List;
import java.util.Map;
import java.util.Set;
import java.util.TreeMap;
import java.util.TreeSet;
import javax.lang.model.element.Modifier;
import javax.tools.JavaCompiler;
import javax.tools.JavaFileObject;
import javax.tools.SimpleJavaFileObject;
import javax.tools.ToolProvider;

/**
 * The rules of LANGUAGE.md, as far as they can be seen in a program's text and as this program keeps them:
 * where they leave a choice that it does not need (recursion, try, enums), the narrower side is held.
 */
final class Rules extends TreeScanner<Void, Void> {
    private static final Set<String> IMPORTS = Set.of("java.util.Arrays", "java.util.NoSuchElementException",
        "java.util.ArrayList", "java.util.List");
    private static final Set<String> EXCEPTIONS = Set.of("IllegalStateException", "IllegalArgumentException",
        "IndexOutOfBoundsException", "ArithmeticException", "UnsupportedOperationException",
        "NoSuchElementException", "RuntimeException");
    private static final Set<String> TYPES = Set.of("String", "StringBuilder", "Integer", "ArrayList", "List");
    private static final Set<String> CALLS = Set.of("System.arraycopy", "Arrays.fill", "Arrays.copyOf",
        "Arrays.copyOfRange", "Math.max", "Math.min", "Math.abs", "Math.floorMod", "Math.floorDiv");
    private static final Set<String> OF_ALL_OBJECTS = Set.of("equals", "hashCode", "toString", "getClass",
        "getMessage");

    private final Set<String> broken = new TreeSet<>();
    private final Set<String> classes = new TreeSet<>();
    private final Map<String, Set<String>> calls = new TreeMap<>();
    private final CompilationUnitTree unit;
    private String method = "";
    private int classDepth = 0;
    private int loopDepth = 0;
    private boolean inThrow = false;

    private Rules(CompilationUnitTree unit) {
        this.unit = unit;
    }

    /** The numbers of the rules that a text breaks, each with what breaks it; a text may hold one file alone. */
    static Set<String> brokenBy(String text) {
        JavaCompiler compiler = ToolProvider.getSystemJavaCompiler();
        JavaFileObject file = new SimpleJavaFileObject(URI.create("text:///FewBits.java"), JavaFileObject.Kind.SOURCE) {
            @Override
            public CharSequence getCharContent(boolean ignoreEncodingErrors) {
                return text;
            }
        };
        JavacTask task = (JavacTask) compiler.getTask(null, null, null, null, null, List.of(file));
        try {
            Rules rules = new Rules(task.parse().iterator().next());
            rules.look();
            return rules.broken;
        } catch (IOException e) {
            throw new UncheckedIOException(e);
        }
    }

    private void look() {
        unit.accept(new TreeScanner<Void, Void>() {
            @Override
            public Void visitClass(ClassTree tree, Void none) {
                classes.add(tree.getSimpleName().toString());
                return super.visitClass(tree, none);
            }
        }, null);
        require(1, "one public class and no package", unit.getTypeDecls().size() == 1 && unit.getPackageName() == null);
        require(11, "at most twelve classes", classes.size() <= 12);
        scan(unit, null);
        for (String name : calls.keySet()) {
            lookDown(name, 1);
        }
    }

    private void require(int rule, String what, boolean kept) {
        if (!kept) {
            broken.add("rule " + rule + ": " + what + (method.isEmpty() ? "" : " in " + method));
        }
    }

    /** Methods of one name are taken as one, so what is found is never less deep than the program is. */
    private void lookDown(String name, int depth) {
        method = name;
        require(11, "calls at most eight deep, and no recursion", depth <= 8);
        if (depth <= 8) {
            for (String next : calls.getOrDefault(name, Set.of())) {
                if (calls.containsKey(next)) {
                    lookDown(next, depth + 1);
                }
            }
        }
    }

    @Override
    public Void visitImport(ImportTree tree, Void none) {
        require(4, "an import of " + tree.getQualifiedIdentifier(),
            !tree.isStatic() && IMPORTS.contains(tree.getQualifiedIdentifier().toString()));
        return null;
    }

    @Override
    public Void visitClass(ClassTree tree, Void none) {
        Set<Modifier> modifiers = tree.getModifiers().getFlags();
        if (classDepth == 0) {
            require(1, "the class is public and final", modifiers.equals(Set.of(Modifier.PUBLIC, Modifier.FINAL)));
        } else {
            require(1, "a class inside is static, and private or package-visible", modifiers.contains(Modifier.STATIC)
                && !modifiers.contains(Modifier.PUBLIC) && !modifiers.contains(Modifier.PROTECTED));
            require(2, "no local class", method.isEmpty());
        }
        require(11, "at most twenty fields", tree.getMembers().stream().filter(Rules::isField).count() <= 20);
        for (Tree member : tree.getMembers()) {
            require(5, "no initialiser block", !(member instanceof BlockTree));
            if (member instanceof VariableTree) {
                Set<Modifier> flags = ((VariableTree) member).getModifiers().getFlags();
                require(5, "a static field is final", !flags.contains(Modifier.STATIC) || flags.contains(Modifier.FINAL));
            }
        }
        classDepth++;
        super.visitClass(tree, none);
        classDepth--;
        return null;
    }

    private static boolean isField(Tree member) {
        return member instanceof VariableTree
            && !((VariableTree) member).getModifiers().getFlags().contains(Modifier.STATIC);
    }

    @Override
    public Void visitMethod(MethodTree tree, Void none) {
        String outer = method;
        method = tree.getName().toString();
        require(11, "at most seven parameters", tree.getParameters().size() <= 7);
        require(11, "at most sixty lines", tree.toString().lines().count() <= 60);
        require(6, "not synchronized", !tree.getModifiers().getFlags().contains(Modifier.SYNCHRONIZED));
        require(6, "no such method of its own", !OF_ALL_OBJECTS.contains(method));
        calls.computeIfAbsent(method, name -> new TreeSet<>());
        super.visitMethod(tree, none);
        method = outer;
        return null;
    }

    @Override
    public Void visitMethodInvocation(MethodInvocationTree tree, Void none) {
        ExpressionTree called = tree.getMethodSelect();
        String name = called.toString();
        if (called instanceof MemberSelectTree) {
            MemberSelectTree select = (MemberSelectTree) called;
            name = select.getIdentifier().toString();
            String owner = select.getExpression().toString();
            if (owner.matches("[A-Z][a-zA-Z.]*") && !classes.contains(owner)) {
                require(4, "a call of " + called, CALLS.contains(called.toString()));
                scan(tree.getArguments(), none);
                return null;
            }
        }
        require(6, "a call of " + name, !OF_ALL_OBJECTS.contains(name));
        calls.computeIfAbsent(method, caller -> new TreeSet<>()).add(name);
        return super.visitMethodInvocation(tree, none);
    }

    @Override
    public Void visitIdentifier(IdentifierTree tree, Void none) {
        String name = tree.getName().toString();
        boolean isType = name.matches("[A-Z].*[a-z].*");
        require(3, "the type " + name,
            !isType || classes.contains(name) || TYPES.contains(name) || EXCEPTIONS.contains(name));
        return null;
    }

    @Override
    public Void visitAnnotation(AnnotationTree tree, Void none) {
        require(4, "the annotation " + tree, tree.getAnnotationType().toString().equals("Override"));
        return null;
    }

    @Override
    public Void visitLambdaExpression(LambdaExpressionTree tree, Void none) {
        require(2, "no lambda", false);
        return super.visitLambdaExpression(tree, none);
    }

    @Override
    public Void visitMemberReference(MemberReferenceTree tree, Void none) {
        require(2, "no method reference", false);
        return super.visitMemberReference(tree, none);
    }

    @Override
    public Void visitThrow(ThrowTree tree, Void none) {
        require(6, "a new exception with a written text", isWrittenOut(tree.getExpression()));
        require(6, "no throw in a constructor", !method.equals("<init>"));
        inThrow = true;
        super.visitThrow(tree, none);
        inThrow = false;
        return null;
    }

    private static boolean isWrittenOut(ExpressionTree thrown) {
        if (!(thrown instanceof NewClassTree)) {
            return false;
        }
        NewClassTree made = (NewClassTree) thrown;
        return EXCEPTIONS.contains(made.getIdentifier().toString()) && made.getArguments().size() <= 1
            && made.getArguments().stream().allMatch(text -> text.getKind() == Tree.Kind.STRING_LITERAL);
    }

    @Override
    public Void visitTry(TryTree tree, Void none) {
        require(6, "no try", false);
        return super.visitTry(tree, none);
    }

    @Override
    public Void visitSynchronized(SynchronizedTree tree, Void none) {
        require(6, "not synchronized", false);
        return super.visitSynchronized(tree, none);
    }

    @Override
    public Void visitAssert(AssertTree tree, Void none) {
        require(6, "no assert", false);
        return super.visitAssert(tree, none);
    }

    @Override
    public Void visitForLoop(ForLoopTree tree, Void none) {
        require(9, "a loop with a bound", tree.getCondition() != null && !tree.getUpdate().isEmpty());
        loopDepth++;
        super.visitForLoop(tree, none);
        loopDepth--;
        return null;
    }

    @Override
    public Void visitEnhancedForLoop(EnhancedForLoopTree tree, Void none) {
        loopDepth++;
        super.visitEnhancedForLoop(tree, none);
        loopDepth--;
        return null;
    }

    @Override
    public Void visitWhileLoop(WhileLoopTree tree, Void none) {
        require(9, "a loop that counts", false);
        return super.visitWhileLoop(tree, none);
    }

    @Override
    public Void visitDoWhileLoop(DoWhileLoopTree tree, Void none) {
        require(9, "a loop that counts", false);
        return super.visitDoWhileLoop(tree, none);
    }

    @Override
    public Void visitBinary(BinaryTree tree, Void none) {
        boolean joins = tree.getKind() == Tree.Kind.PLUS
            && (isText(tree.getLeftOperand()) || isText(tree.getRightOperand()));
        require(10, "no texts joined by +", !joins);
        return super.visitBinary(tree, none);
    }

    private static boolean isText(Tree tree) {
        return tree.getKind() == Tree.Kind.STRING_LITERAL;
    }

    @Override
    public Void visitNewClass(NewClassTree tree, Void none) {
        require(12, "no object made in a loop", inThrow || loopDepth == 0);
        return super.visitNewClass(tree, none);
    }

    @Override
    public Void visitNewArray(NewArrayTree tree, Void none) {
        require(12, "rows are made in constructors", method.isEmpty() || method.equals("<init>"));
        return super.visitNewArray(tree, none);
    }
}
