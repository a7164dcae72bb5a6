import com.sun.source.tree.AnnotationTree;
import com.sun.source.tree.AssertTree;
import com.sun.source.tree.BinaryTree;
import com.sun.source.tree.ClassTree;
import com.sun.source.tree.CompilationUnitTree;
import com.sun.source.tree.CompoundAssignmentTree;
import com.sun.source.tree.ExpressionTree;
import com.sun.source.tree.ImportTree;
import com.sun.source.tree.LambdaExpressionTree;
import com.sun.source.tree.MemberReferenceTree;
import com.sun.source.tree.MethodInvocationTree;
import com.sun.source.tree.MethodTree;
import com.sun.source.tree.NewClassTree;
import com.sun.source.tree.SynchronizedTree;
import com.sun.source.tree.ThrowTree;
import com.sun.source.tree.Tree;
import com.sun.source.tree.TryTree;
import com.sun.source.tree.TypeCastTree;
import com.sun.source.tree.VariableTree;
import com.sun.source.util.JavacTask;
import com.sun.source.util.TreePathScanner;
import com.sun.source.util.Trees;
import java.io.File;
import java.nio.charset.StandardCharsets;
import java.nio.file.Files;
import java.util.ArrayList;
import java.util.HashSet;
import java.util.LinkedHashMap;
import java.util.LinkedHashSet;
import java.util.List;
import java.util.Map;
import java.util.Set;
import javax.lang.model.element.Element;
import javax.lang.model.element.ElementKind;
import javax.lang.model.element.ExecutableElement;
import javax.lang.model.element.Modifier;
import javax.lang.model.element.NestingKind;
import javax.lang.model.element.TypeElement;
import javax.lang.model.type.TypeKind;
import javax.lang.model.type.TypeMirror;
import javax.tools.JavaCompiler;
import javax.tools.StandardJavaFileManager;
import javax.tools.ToolProvider;

/** Goes through the class's source by the rules of ../shared/LANGUAGE.md that can be counted or listed. */
public final class LanguageTest {
    private static final String SOURCE = "src/main/java/Gridprobe.java";
    private static final int DEEPEST_CALLS = 8;
    private static final int MOST_PARAMETERS = 7;
    private static final int MOST_LINES = 60;
    private static final int MOST_CLASSES = 12;
    private static final int MOST_FIELDS = 20;
    // Less than rule 4 leaves: what the class needs of it.
    private static final Set<String> LIBRARY = Set.of("Integer.bitCount", "Math.floorMod", "System.arraycopy");
    private static final Set<String> THROWN = Set.of("IllegalStateException", "IllegalArgumentException",
        "IndexOutOfBoundsException", "ArithmeticException", "NoSuchElementException");
    // Those that were looked at: a test of the divisor stands ahead of each.
    private static final Set<String> DIVISIONS = Set.of("first / second", "drawn % size");

    private static final Checks checks = new Checks();

    public static void main(String[] args) throws Exception {
        sourceHasPlainSignsAlone();
        JavaCompiler compiler = ToolProvider.getSystemJavaCompiler();
        try (StandardJavaFileManager files = compiler.getStandardFileManager(null, null, null)) {
            JavacTask task = (JavacTask) compiler.getTask(null, files, null, List.of("-proc:none"), null,
                files.getJavaFileObjects(new File(SOURCE)));
            List<CompilationUnitTree> units = new ArrayList<>();
            task.parse().forEach(units::add);
            task.analyze();
            checks.due("files", units.size(), 1);
            Source source = new Source(Trees.instance(task), units.get(0));
            source.scan(units.get(0), null);
            source.close();
        }
        checks.close();
    }

    private static void sourceHasPlainSignsAlone() throws Exception {
        String text = Files.readString(new File(SOURCE).toPath(), StandardCharsets.ISO_8859_1);
        checks.due("signs above 127", text.chars().filter(sign -> sign > 127).count(), 0);
    }

    private static final class Source extends TreePathScanner<Void, Void> {
        private final Trees trees;
        private final CompilationUnitTree unit;
        private final Map<Element, Set<Element>> calls = new LinkedHashMap<>();
        private final Set<String> publicNames = new HashSet<>();
        private final Set<String> otherNames = new HashSet<>();
        private Element method;
        private int classes;

        Source(Trees trees, CompilationUnitTree unit) {
            this.trees = trees;
            this.unit = unit;
        }

        void close() {
            checks.due("classes, of at most " + MOST_CLASSES, classes <= MOST_CLASSES, true);
            publicNames.remove("<init>");
            for (String name : publicNames) {
                checks.due("rule 1: " + name + " names another method, too", otherNames.contains(name), false);
            }
            for (Element start : calls.keySet()) {
                int depth = depth(start, new HashSet<>());
                checks.due("rule 11: calls from " + start + " go " + depth + " deep", depth <= DEEPEST_CALLS, true);
            }
        }

        private int depth(Element start, Set<Element> open) {
            if (!open.add(start)) {
                never("a recursion of " + start);
                return 0;
            }
            int deepest = 0;
            for (Element called : calls.getOrDefault(start, Set.of())) {
                deepest = Math.max(deepest, depth(called, open));
            }
            open.remove(start);
            return deepest + 1;
        }

        private void never(String what) {
            checks.due("there is " + what + (method == null ? "" : " in " + method), 1, 0);
        }

        @Override
        public Void visitImport(ImportTree tree, Void none) {
            checks.dueText("import", tree.getQualifiedIdentifier().toString(), "java.util.NoSuchElementException");
            return null;
        }

        @Override
        public Void visitClass(ClassTree tree, Void none) {
            classes++;
            TypeElement type = (TypeElement) trees.getElement(getCurrentPath());
            boolean outer = type.getNestingKind() == NestingKind.TOP_LEVEL;
            if (!outer && !type.getModifiers().containsAll(Set.of(Modifier.PRIVATE, Modifier.STATIC))) {
                never("a class that is not private and static: " + type);
            }
            int fields = 0;
            for (Element member : type.getEnclosedElements()) {
                Set<Modifier> modifiers = member.getModifiers();
                boolean isStatic = modifiers.contains(Modifier.STATIC);
                if (member.getKind() == ElementKind.FIELD) {
                    fields += isStatic ? 0 : 1;
                    checks.due("rule 5: " + member + " is static and not final",
                        isStatic && !modifiers.contains(Modifier.FINAL), false);
                }
                if (member.getKind() == ElementKind.STATIC_INIT) {
                    never("a static initialiser block");
                }
                if (outer && !modifiers.contains(Modifier.PUBLIC)) {
                    checks.due("rule 1: " + member + " is not private", modifiers.contains(Modifier.PRIVATE), true);
                }
            }
            checks.due("rule 11: fields of " + type + ": " + fields, fields <= MOST_FIELDS, true);
            return super.visitClass(tree, none);
        }

        @Override
        public Void visitMethod(MethodTree tree, Void none) {
            ExecutableElement element = (ExecutableElement) trees.getElement(getCurrentPath());
            boolean isPublic = element.getModifiers().contains(Modifier.PUBLIC);
            (isPublic ? publicNames : otherNames).add(element.getSimpleName().toString());
            int parameters = tree.getParameters().size();
            checks.due("rule 11: parameters of " + element, parameters <= MOST_PARAMETERS, true);
            checks.due("rule 11: lines of " + element + ": " + lines(tree), lines(tree) <= MOST_LINES, true);
            method = element;
            calls.put(method, new LinkedHashSet<>());
            super.visitMethod(tree, none);
            method = null;
            return null;
        }

        private long lines(Tree tree) {
            long first = trees.getSourcePositions().getStartPosition(unit, tree);
            long last = trees.getSourcePositions().getEndPosition(unit, tree);
            return unit.getLineMap().getLineNumber(last) - unit.getLineMap().getLineNumber(first) + 1;
        }

        @Override
        public Void visitMethodInvocation(MethodInvocationTree tree, Void none) {
            note(trees.getElement(getCurrentPath()));
            return super.visitMethodInvocation(tree, none);
        }

        @Override
        public Void visitNewClass(NewClassTree tree, Void none) {
            note(trees.getElement(getCurrentPath()));
            return super.visitNewClass(tree, none);
        }

        /** A call of the library counts as a level as well. */
        private void note(Element called) {
            if (method != null && !called.toString().equals("Object()")) {
                calls.get(method).add(called);
            }
            Element owner = called.getEnclosingElement();
            if (owner.toString().startsWith("java.") && called.getKind() == ElementKind.METHOD) {
                String name = owner.getSimpleName() + "." + called.getSimpleName();
                checks.due("rule 4: " + name, LIBRARY.contains(name), true);
            }
        }

        @Override
        public Void visitThrow(ThrowTree tree, Void none) {
            ExpressionTree thrown = tree.getExpression();
            boolean plain = thrown instanceof NewClassTree made && THROWN.contains(made.getIdentifier().toString());
            checks.due("rule 6: " + tree, plain, true);
            checks.due("rule 6: a throw in a constructor", method != null
                && method.getKind() == ElementKind.CONSTRUCTOR, false);
            return super.visitThrow(tree, none);
        }

        @Override
        public Void visitBinary(BinaryTree tree, Void none) {
            TypeMirror type = trees.getTypeMirror(getCurrentPath());
            if (type.getKind() == TypeKind.DECLARED) {
                never("a joined text");
            }
            if (tree.getKind() == Tree.Kind.DIVIDE || tree.getKind() == Tree.Kind.REMAINDER) {
                checks.due("a division that was not looked at: " + tree, DIVISIONS.contains(tree.toString()), true);
            }
            return super.visitBinary(tree, none);
        }

        @Override
        public Void visitCompoundAssignment(CompoundAssignmentTree tree, Void none) {
            if (tree.getKind() == Tree.Kind.DIVIDE_ASSIGNMENT || tree.getKind() == Tree.Kind.REMAINDER_ASSIGNMENT) {
                checks.dueText("divided", tree.toString(), "less /= 2");
            }
            return super.visitCompoundAssignment(tree, none);
        }

        @Override
        public Void visitTry(TryTree tree, Void none) {
            never("a try");
            return super.visitTry(tree, none);
        }

        @Override
        public Void visitTypeCast(TypeCastTree tree, Void none) {
            checks.dueText("cast to", tree.getType().toString(), "int");
            return super.visitTypeCast(tree, none);
        }

        @Override
        public Void visitLambdaExpression(LambdaExpressionTree tree, Void none) {
            never("a lambda");
            return super.visitLambdaExpression(tree, none);
        }

        @Override
        public Void visitMemberReference(MemberReferenceTree tree, Void none) {
            never("a method reference");
            return super.visitMemberReference(tree, none);
        }

        @Override
        public Void visitSynchronized(SynchronizedTree tree, Void none) {
            never("a synchronized block");
            return super.visitSynchronized(tree, none);
        }

        @Override
        public Void visitAssert(AssertTree tree, Void none) {
            never("an assert");
            return super.visitAssert(tree, none);
        }

        @Override
        public Void visitAnnotation(AnnotationTree tree, Void none) {
            never("an annotation");
            return super.visitAnnotation(tree, none);
        }

        @Override
        public Void visitVariable(VariableTree tree, Void none) {
            Element element = trees.getElement(getCurrentPath());
            TypeMirror type = element.asType();
            if (type.getKind() == TypeKind.ARRAY || type.getKind() == TypeKind.DECLARED) {
                String name = type.toString().replace("[]", "");
                checks.due("rule 3: the type of " + element + ": " + name,
                    name.startsWith("Gridprobe") || name.equals("int") || name.equals("long"), true);
            }
            return super.visitVariable(tree, none);
        }
    }
}
