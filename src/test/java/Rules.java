import com.sun.source.tree.*;
import com.sun.source.util.*;
import java.io.File;
import java.util.*;
import javax.lang.model.element.*;
import javax.tools.*;

/** Looks at the source of the class: what LANGUAGE.md rules out and a program can see. */
public final class Rules {
    private static final Set<String> LIBRARY = Set.of("java.util.Arrays.fill", "java.util.Arrays.copyOf",
            "java.util.Arrays.copyOfRange", "java.lang.System.arraycopy", "java.lang.Math.min", "java.lang.Math.max");
    private static final Set<Tree.Kind> REFUSED = EnumSet.of(Tree.Kind.THROW, Tree.Kind.TRY, Tree.Kind.CATCH,
            Tree.Kind.SYNCHRONIZED, Tree.Kind.ASSERT, Tree.Kind.LAMBDA_EXPRESSION, Tree.Kind.MEMBER_REFERENCE,
            Tree.Kind.SWITCH_EXPRESSION, Tree.Kind.FLOAT_LITERAL, Tree.Kind.DOUBLE_LITERAL);
    private static int wrong;

    private Rules() {
    }

    private static void fault(String text) {
        wrong++;
        System.out.println("Rules: " + text);
    }

    public static void main(String[] args) throws Exception {
        JavaCompiler compiler = ToolProvider.getSystemJavaCompiler();
        StandardJavaFileManager files = compiler.getStandardFileManager(null, null, null);
        JavacTask task = (JavacTask) compiler.getTask(null, files, null, List.of("-proc:none"), null,
                files.getJavaFileObjects(new File("src/main/java/TextValues.java")));
        CompilationUnitTree unit = task.parse().iterator().next();
        task.analyze();
        Look look = new Look(Trees.instance(task), unit);
        look.scan(unit, null);
        look.finish();
        System.out.println("Rules: " + look.methods + " methods, " + look.classes + " classes, calls " + look.deepest
                + " deep, " + wrong + " faults");
        if (wrong > 0) {
            System.exit(1);
        }
    }

    private static final class Look extends TreePathScanner<Void, Void> {
        final Trees trees;
        final CompilationUnitTree unit;
        final Map<Element, Set<Element>> calls = new LinkedHashMap<>();
        final Set<String> publicNames = new TreeSet<>();
        final List<String> otherNames = new ArrayList<>();
        Element inside;
        int methods;
        int classes;
        int deepest;
        String longest = "";

        Look(Trees trees, CompilationUnitTree unit) {
            this.trees = trees;
            this.unit = unit;
        }

        private long line(Tree t, boolean end) {
            SourcePositions p = trees.getSourcePositions();
            return unit.getLineMap().getLineNumber(end ? p.getEndPosition(unit, t) : p.getStartPosition(unit, t));
        }

        @Override
        public Void scan(Tree t, Void v) {
            if (t != null && REFUSED.contains(t.getKind())) {
                fault("line " + line(t, false) + ": " + t.getKind());
            }
            return super.scan(t, v);
        }

        @Override
        public Void visitClass(ClassTree t, Void v) {
            classes++;
            int fields = 0;
            for (Tree m : t.getMembers()) {
                if (m instanceof VariableTree f && !f.getModifiers().getFlags().contains(Modifier.STATIC)) {
                    fields++;
                }
                if (m instanceof VariableTree f && f.getModifiers().getFlags().contains(Modifier.STATIC)
                        && !f.getModifiers().getFlags().contains(Modifier.FINAL)) {
                    fault("static field " + f.getName());
                }
                if (m instanceof BlockTree) {
                    fault("block in class " + t.getSimpleName());
                }
            }
            if (fields > 22) {
                fault("class " + t.getSimpleName() + " has " + fields + " fields");
            }
            boolean outer = t.getSimpleName().contentEquals("TextValues");
            if (!outer && !t.getModifiers().getFlags().contains(Modifier.STATIC)) {
                fault("class " + t.getSimpleName() + " is not static");
            }
            return super.visitClass(t, v);
        }

        @Override
        public Void visitMethod(MethodTree t, Void v) {
            Element before = inside;
            inside = trees.getElement(getCurrentPath());
            calls.computeIfAbsent(inside, x -> new LinkedHashSet<>());
            methods++;
            long lines = line(t, true) - line(t, false) + 1;
            if (lines > 60) {
                fault(t.getName() + " has " + lines + " lines");
            }
            if (t.getParameters().size() > 7) {
                fault(t.getName() + " has " + t.getParameters().size() + " parameters");
            }
            if (t.getModifiers().getFlags().contains(Modifier.PUBLIC)) {
                publicNames.add(t.getName().toString());
            } else {
                otherNames.add(t.getName().toString());
            }
            super.visitMethod(t, v);
            inside = before;
            return null;
        }

        @Override
        public Void visitMethodInvocation(MethodInvocationTree t, Void v) {
            note(trees.getElement(getCurrentPath()), t);
            return super.visitMethodInvocation(t, v);
        }

        @Override
        public Void visitNewClass(NewClassTree t, Void v) {
            note(trees.getElement(getCurrentPath()), t);
            return super.visitNewClass(t, v);
        }

        private void note(Element called, Tree t) {
            String owner = called.getEnclosingElement().toString();
            if (!owner.startsWith("TextValues")) {
                String name = owner + "." + called.getSimpleName();
                if (!LIBRARY.contains(name) && !owner.equals("java.lang.Object")) {
                    fault("line " + line(t, false) + ": " + name);
                }
            }
            if (inside != null && !owner.equals("java.lang.Object")) {
                calls.get(inside).add(called);
            }
        }

        void finish() {
            for (String name : otherNames) {
                if (publicNames.contains(name) && !name.equals("<init>")) {
                    fault("a method bears the public name " + name);
                }
            }
            if (classes > 12) {
                fault(classes + " classes");
            }
            for (Element m : calls.keySet()) {
                List<Element> path = new ArrayList<>();
                walk(m, path);
            }
            if (deepest > 8) {
                fault("calls go " + deepest + " deep: " + longest);
            }
        }

        /** A method that stands open already is a recursion, which is not counted again. */
        private void walk(Element m, List<Element> path) {
            if (path.contains(m)) {
                return;
            }
            path.add(m);
            if (path.size() > deepest) {
                deepest = path.size();
                longest = path.toString();
            }
            for (Element c : calls.getOrDefault(m, Set.of())) {
                walk(c, path);
            }
            path.remove(path.size() - 1);
        }
    }
}
