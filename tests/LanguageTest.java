import com.sun.source.tree.*;
import com.sun.source.util.*;
import java.nio.file.Path;
import java.util.*;
import javax.lang.model.element.*;
import javax.tools.*;

/** What of ../shared/LANGUAGE.md can be seen in the tree of the program's text. */
public final class LanguageTest {
    private static final int CLASSES = 12;
    private static final int FIELDS = 20;
    private static final int LINES = 60;
    private static final int PARAMETERS = 7;
    private static final int DEEP = 8;
    private static final Set<String> LIBRARY = Set.of("java.lang.String", "java.lang.Math", "java.lang.System", "java.lang.Object");
    private static final Set<String> CALLS = Set.of("length", "charAt", "max", "min", "abs", "arraycopy");
    private static final Set<String> FORBIDDEN = Set.of("THROW", "TRY", "CATCH", "SYNCHRONIZED", "ASSERT",
        "LAMBDA_EXPRESSION", "MEMBER_REFERENCE", "IMPORT", "SWITCH_EXPRESSION", "ANNOTATION");

    private static Trees trees;
    private static SourcePositions positions;
    private static CompilationUnitTree unit;
    private static final Map<Element, Set<Element>> calls = new LinkedHashMap<>();

    public static void main(String[] args) throws Exception {
        JavaCompiler compiler = ToolProvider.getSystemJavaCompiler();
        StandardJavaFileManager files = compiler.getStandardFileManager(null, null, null);
        JavacTask task = (JavacTask) compiler.getTask(null, files, null, List.of("-proc:none"), null,
            files.getJavaFileObjects(Path.of("src/main/java/BoardMill.java")));
        unit = task.parse().iterator().next();
        task.analyze();
        trees = Trees.instance(task);
        positions = trees.getSourcePositions();
        new Look().scan(unit, null);
        checkFace();
        checkDepth();
        Bench.finish("LanguageTest");
    }

    private static void rule(String what, boolean holds) {
        Bench.due(what, holds, true);
    }

    private static long lines(Tree tree) {
        LineMap map = unit.getLineMap();
        return map.getLineNumber(positions.getEndPosition(unit, tree)) - map.getLineNumber(positions.getStartPosition(unit, tree)) + 1;
    }

    /** Looks at every part of the program. */
    private static final class Look extends TreePathScanner<Void, Void> {
        private int classes = 0;
        private Element inMethod = null;

        @Override
        public Void scan(Tree tree, Void nothing) {
            if (tree != null) {
                rule("rule 6: no " + tree.getKind(), !FORBIDDEN.contains(tree.getKind().name()));
            }
            return super.scan(tree, nothing);
        }

        @Override
        public Void visitClass(ClassTree tree, Void nothing) {
            classes++;
            rule("rule 11: classes, " + classes, classes <= CLASSES);
            Set<Modifier> flags = tree.getModifiers().getFlags();
            rule("rule 2: " + tree.getSimpleName() + " is static", classes == 1 || flags.contains(Modifier.STATIC));
            int fields = 0;
            for (Tree member : tree.getMembers()) {
                rule("rule 5: no static block", !(member instanceof BlockTree));
                if (member instanceof VariableTree field) {
                    Set<Modifier> fieldFlags = field.getModifiers().getFlags();
                    boolean isStatic = fieldFlags.contains(Modifier.STATIC);
                    rule("rule 5: " + field.getName() + " is final", !isStatic || fieldFlags.contains(Modifier.FINAL));
                    fields += isStatic ? 0 : 1;
                }
            }
            rule("rule 11: fields of " + tree.getSimpleName() + ", " + fields, fields <= FIELDS);
            return super.visitClass(tree, nothing);
        }

        @Override
        public Void visitMethod(MethodTree tree, Void nothing) {
            rule("rule 11: parameters of " + tree.getName(), tree.getParameters().size() <= PARAMETERS);
            rule("rule 11: lines of " + tree.getName(), lines(tree) <= LINES);
            inMethod = trees.getElement(getCurrentPath());
            calls.put(inMethod, new LinkedHashSet<>());
            super.visitMethod(tree, nothing);
            inMethod = null;
            return null;
        }

        @Override
        public Void visitMethodInvocation(MethodInvocationTree tree, Void nothing) {
            Element called = trees.getElement(getCurrentPath());
            String owner = called.getEnclosingElement().toString();
            if (owner.startsWith("BoardMill")) {
                calls.get(inMethod).add(called);
            } else if (called.getKind() == ElementKind.METHOD) {
                rule("rule 4: " + owner + "." + called.getSimpleName(),
                    LIBRARY.contains(owner) && CALLS.contains(called.getSimpleName().toString()));
            }
            return super.visitMethodInvocation(tree, nothing);
        }

        @Override
        public Void visitNewClass(NewClassTree tree, Void nothing) {
            made(tree);
            return super.visitNewClass(tree, nothing);
        }

        @Override
        public Void visitNewArray(NewArrayTree tree, Void nothing) {
            made(tree);
            return super.visitNewArray(tree, nothing);
        }

        /** The one room for all calls: what is made is made in constructors. */
        private void made(Tree tree) {
            rule("made outside of a constructor: " + tree, inMethod == null || inMethod.getKind() == ElementKind.CONSTRUCTOR);
        }

        @Override
        public Void visitBinary(BinaryTree tree, Void nothing) {
            String left = String.valueOf(trees.getTypeMirror(new TreePath(getCurrentPath(), tree.getLeftOperand())));
            String right = String.valueOf(trees.getTypeMirror(new TreePath(getCurrentPath(), tree.getRightOperand())));
            rule("rules 6 and 10: " + tree, !left.startsWith("java.lang") && !right.startsWith("java.lang"));
            return super.visitBinary(tree, nothing);
        }
    }

    /** Rule 1: the public names are the document's, and no other method bears one of them. */
    private static void checkFace() {
        Set<String> due = new TreeSet<>(List.of("feed", "end", "sheets", "kind", "number", "written", "nets", "netOf",
            "nameOf", "remark", "board", "put", "bar", "cost", "route", "way", "costOf", "blocking", "rule", "cut",
            "violations", "violation", "copper", "airline", "shorts", "exact", "drill", "reread", "program", "facts",
            "run", "output", "error", "demand", "save", "drop", "sweep", "crash", "reopen", "saved", "load", "release",
            "approve", "withdraw", "serial", "root", "proof", "check", "told"));
        Set<String> found = new TreeSet<>();
        for (Element method : calls.keySet()) {
            String name = method.getSimpleName().toString();
            boolean isFace = method.getModifiers().contains(Modifier.PUBLIC) && method.getKind() == ElementKind.METHOD;
            if (isFace) {
                found.add(name);
            }
            boolean ofMill = method.getEnclosingElement().toString().equals("BoardMill");
            rule("rule 1: " + method, isFace == due.contains(name));
            rule("rule 1: " + method + " is of the face or private", !ofMill || isFace
                || method.getKind() == ElementKind.CONSTRUCTOR || method.getModifiers().contains(Modifier.PRIVATE));
        }
        Bench.due("rule 1: the face", found.toString(), due.toString());
    }

    /** Rule 11: how deep calls go, those of one recursion counted once. */
    private static void checkDepth() {
        Map<Element, Integer> depths = new HashMap<>();
        int deepest = 0;
        for (Element method : calls.keySet()) {
            deepest = Math.max(deepest, depth(method, depths));
            if (depth(method, depths) > DEEP) {
                System.out.println(chain(method, depths));
            }
        }
        rule("rule 11: calls go " + deepest + " deep", deepest <= DEEP);
    }

    private static String chain(Element from, Map<Element, Integer> depths) {
        StringBuilder all = new StringBuilder();
        Element at = from;
        for (int n = depths.get(from); n > 0 && at != null; n--) {
            all.append(' ').append(at.getSimpleName());
            Element deepest = null;
            for (Element called : calls.getOrDefault(at, Set.of())) {
                boolean deeper = deepest == null || depths.getOrDefault(called, 0) > depths.getOrDefault(deepest, 0);
                deepest = deeper ? called : deepest;
            }
            at = deepest;
        }
        return all.toString();
    }

    private static Set<Element> reached(Element from) {
        Set<Element> all = new LinkedHashSet<>();
        Deque<Element> next = new ArrayDeque<>(calls.getOrDefault(from, Set.of()));
        while (!next.isEmpty()) {
            Element method = next.pop();
            if (all.add(method)) {
                next.addAll(calls.getOrDefault(method, Set.of()));
            }
        }
        return all;
    }

    private static int depth(Element method, Map<Element, Integer> depths) {
        Integer known = depths.get(method);
        if (known != null) {
            return known;
        }
        Set<Element> round = new LinkedHashSet<>(List.of(method));
        for (Element other : reached(method)) {
            if (reached(other).contains(method)) {
                round.add(other);
            }
        }
        int below = 0;
        for (Element member : round) {
            for (Element called : calls.getOrDefault(member, Set.of())) {
                if (!round.contains(called)) {
                    below = Math.max(below, depth(called, depths));
                }
            }
        }
        for (Element member : round) {
            depths.put(member, below + 1);
        }
        return below + 1;
    }
}
