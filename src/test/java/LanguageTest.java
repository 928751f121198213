import com.sun.source.tree.AssertTree;
import com.sun.source.tree.BinaryTree;
import com.sun.source.tree.ClassTree;
import com.sun.source.tree.CompilationUnitTree;
import com.sun.source.tree.ImportTree;
import com.sun.source.tree.InstanceOfTree;
import com.sun.source.tree.LambdaExpressionTree;
import com.sun.source.tree.MemberReferenceTree;
import com.sun.source.tree.MethodInvocationTree;
import com.sun.source.tree.MethodTree;
import com.sun.source.tree.NewArrayTree;
import com.sun.source.tree.NewClassTree;
import com.sun.source.tree.SynchronizedTree;
import com.sun.source.tree.ThrowTree;
import com.sun.source.tree.Tree;
import com.sun.source.tree.TryTree;
import com.sun.source.tree.VariableTree;
import com.sun.source.util.JavacTask;
import com.sun.source.util.SourcePositions;
import com.sun.source.util.TreePath;
import com.sun.source.util.TreePathScanner;
import com.sun.source.util.Trees;
import java.io.File;
import java.util.HashMap;
import java.util.HashSet;
import java.util.List;
import java.util.Map;
import java.util.Set;
import java.util.TreeSet;
import javax.lang.model.element.Element;
import javax.lang.model.element.ExecutableElement;
import javax.lang.model.element.Modifier;
import javax.tools.JavaCompiler;
import javax.tools.StandardJavaFileManager;
import javax.tools.ToolProvider;

/** Those rules of ../shared/LANGUAGE.md that can be read off the source. */
public final class LanguageTest {
    private static final File SOURCE = new File("src/main/java/PancakePanel.java");
    private static final int MAX_DEPTH = 8;
    private static final int MAX_LINES = 60;
    private static final int MAX_PARAMETERS = 7;
    private static final int MAX_CLASSES = 12;
    private static final int MAX_FIELDS = 20;
    private static final Set<String> LIBRARY = Set.of("java.util.Arrays.fill", "java.util.Arrays.copyOf",
        "java.util.Arrays.copyOfRange", "java.lang.System.arraycopy", "java.lang.Math.min", "java.lang.Math.max",
        "java.lang.Math.abs", "java.lang.String.length", "java.lang.String.charAt");
    private static final Set<String> EXCEPTIONS = Set.of("IllegalStateException", "IllegalArgumentException",
        "IndexOutOfBoundsException");

    private LanguageTest() {
    }

    public static void main(String[] args) throws java.io.IOException {
        JavaCompiler compiler = ToolProvider.getSystemJavaCompiler();
        try (StandardJavaFileManager files = compiler.getStandardFileManager(null, null, null)) {
            JavacTask task = (JavacTask) compiler.getTask(null, files, null, List.of("-proc:none"), null,
                files.getJavaFileObjects(SOURCE));
            CompilationUnitTree unit = task.parse().iterator().next();
            task.analyze();
            Rules rules = new Rules(unit, Trees.instance(task));
            rules.scan(unit, null);
            rules.finish();
        }
        Check.finish();
    }

    private static final class Rules extends TreePathScanner<Void, Void> {
        private final CompilationUnitTree unit;
        private final Trees trees;
        private final SourcePositions positions;
        private final Map<Element, Set<Element>> calls = new HashMap<>();
        private final Set<String> face = new TreeSet<>();
        private final Set<String> others = new TreeSet<>();
        private Element method;
        private boolean isConstructor = true;
        private int classes;

        Rules(CompilationUnitTree unit, Trees trees) {
            this.unit = unit;
            this.trees = trees;
            positions = trees.getSourcePositions();
        }

        private long line(long position) {
            return unit.getLineMap().getLineNumber(position);
        }

        private void no(Tree tree, String what) {
            Check.same(what + " in line " + line(positions.getStartPosition(unit, tree)), 1, 0);
        }

        @Override
        public Void visitImport(ImportTree tree, Void v) {
            Check.same("import", tree.getQualifiedIdentifier().toString(), "java.util.Arrays");
            return null;
        }

        @Override
        public Void visitClass(ClassTree tree, Void v) {
            classes++;
            int fields = 0;
            for (Tree member : tree.getMembers()) {
                if (member instanceof VariableTree field) {
                    Set<Modifier> flags = field.getModifiers().getFlags();
                    Element element = trees.getElement(trees.getPath(unit, member));
                    boolean isStatic = element.getModifiers().contains(Modifier.STATIC);
                    fields += isStatic ? 0 : 1;
                    if (isStatic && !element.getModifiers().contains(Modifier.FINAL)) {
                        no(member, "a static field that is not final");
                    }
                    if (flags.contains(Modifier.PUBLIC) && !isStatic) {
                        no(member, "a public field");
                    }
                }
            }
            Check.isTrue("fields of " + tree.getSimpleName() + ": " + fields, fields <= MAX_FIELDS);
            return super.visitClass(tree, v);
        }

        @Override
        public Void visitMethod(MethodTree tree, Void v) {
            String name = tree.getName().toString();
            boolean isOfFace = tree.getModifiers().getFlags().contains(Modifier.PUBLIC);
            if (!name.equals("<init>")) {
                (isOfFace ? face : others).add(name);
            }
            long lines = line(positions.getEndPosition(unit, tree)) - line(positions.getStartPosition(unit, tree)) + 1;
            Check.isTrue(name + " has " + lines + " lines", lines <= MAX_LINES);
            Check.isTrue(name + " has few parameters", tree.getParameters().size() <= MAX_PARAMETERS);
            method = trees.getElement(getCurrentPath());
            isConstructor = name.equals("<init>");
            super.visitMethod(tree, v);
            method = null;
            isConstructor = true;
            return null;
        }

        @Override
        public Void visitMethodInvocation(MethodInvocationTree tree, Void v) {
            ExecutableElement called = (ExecutableElement) trees.getElement(getCurrentPath());
            Element owner = called.getEnclosingElement();
            boolean isOwn = owner.toString().startsWith("PancakePanel");
            boolean isImplied = called.getSimpleName().contentEquals("<init>");
            if (!isOwn && !isImplied) {
                String name = owner + "." + called.getSimpleName();
                Check.isTrue("the library has " + name, LIBRARY.contains(name));
                if (name.equals("java.lang.System.arraycopy")) {
                    rowOfNumbers(tree, 0);
                    rowOfNumbers(tree, 2);
                }
            } else if (method != null) {
                calls.computeIfAbsent(method, m -> new HashSet<>()).add(called);
            }
            return super.visitMethodInvocation(tree, v);
        }

        /** Rule 4 can be read so that arraycopy, too, is for arrays of numbers alone. */
        private void rowOfNumbers(MethodInvocationTree tree, int argument) {
            String type = trees.getTypeMirror(
                new TreePath(getCurrentPath(), tree.getArguments().get(argument))).toString();
            Check.isTrue("a row of numbers is copied, not " + type, type.equals("int[]") || type.equals("long[]"));
        }

        /** Objects are made in constructors alone, so that no run can fill the room. */
        @Override
        public Void visitNewClass(NewClassTree tree, Void v) {
            if (!isConstructor && !EXCEPTIONS.contains(tree.getIdentifier().toString())) {
                no(tree, "an object made by a method");
            }
            return super.visitNewClass(tree, v);
        }

        @Override
        public Void visitNewArray(NewArrayTree tree, Void v) {
            if (!isConstructor) {
                no(tree, "an array made by a method");
            }
            return super.visitNewArray(tree, v);
        }

        @Override
        public Void visitThrow(ThrowTree tree, Void v) {
            if (isConstructor) {
                no(tree, "a throw in a constructor");
            }
            return super.visitThrow(tree, v);
        }

        @Override
        public Void visitBinary(BinaryTree tree, Void v) {
            if (trees.getTypeMirror(getCurrentPath()).toString().equals("java.lang.String")) {
                no(tree, "texts joined by +");
            }
            return super.visitBinary(tree, v);
        }

        @Override
        public Void visitLambdaExpression(LambdaExpressionTree tree, Void v) {
            no(tree, "a lambda");
            return null;
        }

        @Override
        public Void visitMemberReference(MemberReferenceTree tree, Void v) {
            no(tree, "a method reference");
            return null;
        }

        @Override
        public Void visitTry(TryTree tree, Void v) {
            no(tree, "a try, which this class does without");
            return null;
        }

        @Override
        public Void visitSynchronized(SynchronizedTree tree, Void v) {
            no(tree, "synchronized");
            return null;
        }

        @Override
        public Void visitAssert(AssertTree tree, Void v) {
            no(tree, "assert");
            return null;
        }

        @Override
        public Void visitInstanceOf(InstanceOfTree tree, Void v) {
            no(tree, "instanceof, which this class does without");
            return null;
        }

        void finish() {
            Check.isTrue(classes + " classes", classes <= MAX_CLASSES);
            for (String name : others) {
                Check.isFalse("the name " + name + " twice", face.contains(name));
            }
            for (Element start : calls.keySet()) {
                int depth = depth(start, new HashSet<>());
                Check.isTrue(start + " goes " + depth + " calls deep", depth <= MAX_DEPTH);
            }
        }

        private int depth(Element from, Set<Element> open) {
            if (!open.add(from)) {
                Check.same(from + " calls itself", 1, 0);
                return 0;
            }
            int deepest = 0;
            for (Element called : calls.getOrDefault(from, Set.of())) {
                deepest = Math.max(deepest, depth(called, open));
            }
            open.remove(from);
            return deepest + 1;
        }
    }
}
