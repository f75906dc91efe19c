import com.sun.source.tree.AssertTree;
import com.sun.source.tree.BinaryTree;
import com.sun.source.tree.ClassTree;
import com.sun.source.tree.CompilationUnitTree;
import com.sun.source.tree.LambdaExpressionTree;
import com.sun.source.tree.LiteralTree;
import com.sun.source.tree.MemberReferenceTree;
import com.sun.source.tree.MethodInvocationTree;
import com.sun.source.tree.MethodTree;
import com.sun.source.tree.NewClassTree;
import com.sun.source.tree.SynchronizedTree;
import com.sun.source.tree.ThrowTree;
import com.sun.source.tree.Tree;
import com.sun.source.tree.TryTree;
import com.sun.source.tree.VariableTree;
import com.sun.source.util.JavacTask;
import com.sun.source.util.TreePath;
import com.sun.source.util.TreePathScanner;
import com.sun.source.util.Trees;
import java.io.IOException;
import java.nio.file.Files;
import java.nio.file.Path;
import java.util.List;
import java.util.Map;
import java.util.Set;
import java.util.TreeMap;
import java.util.TreeSet;
import java.util.regex.Matcher;
import java.util.regex.Pattern;
import javax.lang.model.element.Element;
import javax.lang.model.element.Modifier;
import javax.lang.model.element.TypeElement;
import javax.lang.model.type.TypeKind;
import javax.tools.JavaCompiler;
import javax.tools.StandardJavaFileManager;
import javax.tools.ToolProvider;

/**
 * Holds the class's text against the rules of ../shared/LANGUAGE.md that can be counted or looked up,
 * and its face against the one that the document tells.
 */
public final class LanguageTest extends TreePathScanner<Void, Void> {
    private static final Path SOURCE = Path.of("src/main/java/LeafWorlds.java");
    private static final Path DOCUMENT = Path.of("../shared/DOC.md");
    private static final int MOST_CLASSES = 12;
    private static final int MOST_FIELDS = 20;
    private static final int MOST_LINES = 60;
    private static final int MOST_PARAMETERS = 7;
    private static final int MOST_DEEP = 8;
    private static final Set<String> LIBRARY = Set.of("System.arraycopy", "Arrays.fill", "Arrays.copyOf",
        "Arrays.copyOfRange", "Math.min", "Math.max", "Math.abs", "Math.floorMod", "Math.floorDiv",
        "Integer.bitCount", "Integer.compare", "Long.compare", "Long.bitCount", "NoSuchElementException.<init>",
        "Object.<init>");
    private static final Set<String> IMPORTS = Set.of("java.util.Arrays", "java.util.NoSuchElementException");

    private final CompilationUnitTree unit;
    private final Trees trees;
    private final String text;
    private final Set<String> face = new TreeSet<>();
    private final Set<String> faceNames = new TreeSet<>();
    private final Set<String> innerNames = new TreeSet<>();
    private final Map<String, Set<String>> calls = new TreeMap<>();
    private int classes;
    private int wrong;
    private String method = "";

    private LanguageTest(CompilationUnitTree unit, Trees trees, String text) {
        this.unit = unit;
        this.trees = trees;
        this.text = text;
    }

    public static void main(String[] args) throws IOException {
        JavaCompiler compiler = ToolProvider.getSystemJavaCompiler();
        if (compiler == null) {
            System.out.println("this Java has no compiler to read the class with: its rules are not looked at");
            return;
        }
        int wrong;
        try (StandardJavaFileManager files = compiler.getStandardFileManager(null, null, null)) {
            JavacTask task = (JavacTask) compiler.getTask(null, files, null, List.of("-proc:none"), null,
                files.getJavaFileObjects(SOURCE));
            CompilationUnitTree unit = task.parse().iterator().next();
            task.analyze();
            LanguageTest test = new LanguageTest(unit, Trees.instance(task), Files.readString(SOURCE));
            test.scan(unit, null);
            test.lookAtAll();
            wrong = test.wrong;
        }
        System.out.println(wrong == 0 ? "the class keeps to the rules" : wrong + " rules are broken");
        if (wrong != 0) {
            System.exit(1);
        }
    }

    private void rule(int rule, boolean kept, String what) {
        if (!kept) {
            wrong++;
            System.out.println("rule " + rule + " of LANGUAGE.md: " + what);
        }
    }

    private void lookAtAll() throws IOException {
        rule(11, classes <= MOST_CLASSES, classes + " classes");
        unit.getImports().forEach(line ->
            rule(4, IMPORTS.contains(line.getQualifiedIdentifier().toString()), line.toString()));
        rule(1, unit.getPackageName() == null, "a package line");
        rule(3, text.chars().allMatch(c -> c == '\n' || c >= ' ' && c < 127), "a sign beyond 1 to 127");
        for (String name : innerNames) {
            rule(1, !faceNames.contains(name), name + " bears the name of a public method");
        }
        if (Files.isReadable(DOCUMENT)) {
            Set<String> told = toldFace();
            Set<String> missing = new TreeSet<>(told);
            missing.removeAll(face);
            rule(1, missing.isEmpty(), "the face has not " + missing);
            face.removeAll(told);
            rule(1, face.isEmpty(), "the document's face has not " + face);
        }
        for (String from : calls.keySet()) {
            int deep = deep(from, Set.of());
            rule(11, deep <= MOST_DEEP, from + " goes " + deep + " calls deep");
        }
    }

    /** The lines of the document's face that tell a member. */
    private static Set<String> toldFace() throws IOException {
        Set<String> told = new TreeSet<>();
        Matcher found = Pattern.compile("\\n    (public [^\\n]*;)").matcher(Files.readString(DOCUMENT));
        while (found.find()) {
            told.add(found.group(1));
        }
        return told;
    }

    /** The longest chain of calls from here on; a method that is met again calls itself. */
    private int deep(String from, Set<String> above) {
        if (above.contains(from)) {
            rule(8, false, from + " calls itself");
            return 0;
        }
        Set<String> now = new TreeSet<>(above);
        now.add(from);
        int most = 0;
        for (String to : calls.getOrDefault(from, Set.of())) {
            most = Math.max(most, deep(to, now));
        }
        return most + 1;
    }

    private boolean isOuter() {
        return getCurrentPath().getParentPath().getLeaf() == unit.getTypeDecls().get(0);
    }

    @Override
    public Void visitClass(ClassTree tree, Void none) {
        classes++;
        Set<Modifier> flags = tree.getModifiers().getFlags();
        Tree parent = getCurrentPath().getParentPath().getLeaf();
        if (parent == unit) {
            rule(1, flags.equals(Set.of(Modifier.PUBLIC, Modifier.FINAL)), "the class is " + flags);
        } else {
            rule(2, parent instanceof ClassTree, tree.getSimpleName() + " is a class inside a method");
            rule(1, flags.contains(Modifier.STATIC) && !flags.contains(Modifier.PUBLIC)
                && !flags.contains(Modifier.PROTECTED), tree.getSimpleName() + " is " + flags);
        }
        long fields = tree.getMembers().stream().filter(member -> member instanceof VariableTree field
            && !field.getModifiers().getFlags().contains(Modifier.STATIC)).count();
        rule(11, fields <= MOST_FIELDS, tree.getSimpleName() + " has " + fields + " fields");
        return super.visitClass(tree, none);
    }

    @Override
    public Void visitVariable(VariableTree tree, Void none) {
        if (getCurrentPath().getParentPath().getLeaf() instanceof ClassTree) {
            Set<Modifier> flags = tree.getModifiers().getFlags();
            boolean constant = flags.contains(Modifier.STATIC);
            rule(5, !constant || flags.contains(Modifier.FINAL) && tree.getInitializer() != null, tree.toString());
            if (isOuter() && flags.contains(Modifier.PUBLIC)) {
                face.add(tree + ";");
            } else if (isOuter()) {
                rule(1, flags.contains(Modifier.PRIVATE), tree + " is not private");
            }
        }
        return super.visitVariable(tree, none);
    }

    @Override
    public Void visitMethod(MethodTree tree, Void none) {
        String before = method;
        Element element = trees.getElement(getCurrentPath());
        method = nameOf(element);
        calls.putIfAbsent(method, new TreeSet<>());
        rule(11, tree.getParameters().size() <= MOST_PARAMETERS, method + " has too many parameters");
        int lines = lineOf(trees.getSourcePositions().getEndPosition(unit, tree))
            - lineOf(trees.getSourcePositions().getStartPosition(unit, tree)) + 1;
        rule(11, lines <= MOST_LINES, method + " has " + lines + " lines");
        String name = tree.getName().toString();
        rule(6, !Set.of("equals", "hashCode", "toString", "finalize").contains(name), method + " is told");
        Set<Modifier> flags = tree.getModifiers().getFlags();
        if (isOuter() && flags.contains(Modifier.PUBLIC)) {
            face.add(headOf(tree));
            faceNames.add(name);
        } else if (!name.equals("<init>")) {
            rule(1, !isOuter() || flags.contains(Modifier.PRIVATE), method + " is not private");
            innerNames.add(name);
        }
        super.visitMethod(tree, none);
        method = before;
        return null;
    }

    private int lineOf(long place) {
        return (int) unit.getLineMap().getLineNumber(place);
    }

    /** The head of a method as the document writes it. */
    private String headOf(MethodTree tree) {
        long from = trees.getSourcePositions().getStartPosition(unit, tree);
        String head = text.substring((int) from, text.indexOf('{', (int) from));
        return head.replaceAll("\\s+", " ").trim() + ";";
    }

    private static String nameOf(Element element) {
        return ((TypeElement) element.getEnclosingElement()).getSimpleName() + "." + element.getSimpleName();
    }

    @Override
    public Void visitMethodInvocation(MethodInvocationTree tree, Void none) {
        called(trees.getElement(new TreePath(getCurrentPath(), tree.getMethodSelect())));
        return super.visitMethodInvocation(tree, none);
    }

    @Override
    public Void visitNewClass(NewClassTree tree, Void none) {
        rule(2, tree.getClassBody() == null, "an anonymous class in " + method);
        called(trees.getElement(getCurrentPath()));
        return super.visitNewClass(tree, none);
    }

    private void called(Element element) {
        String name = nameOf(element);
        if (((TypeElement) element.getEnclosingElement()).getQualifiedName().toString().startsWith("LeafWorlds")) {
            calls.computeIfAbsent(method, key -> new TreeSet<>()).add(name);
        } else {
            rule(4, LIBRARY.contains(name), method + " uses " + name);
        }
    }

    @Override
    public Void visitThrow(ThrowTree tree, Void none) {
        rule(6, Set.of("LeafWorlds.term", "LeafWorlds.undone").contains(method), method + " throws");
        rule(6, tree.getExpression() instanceof NewClassTree made && made.getArguments().stream()
            .allMatch(argument -> argument instanceof LiteralTree), "a throw in " + method);
        return super.visitThrow(tree, none);
    }

    @Override
    public Void visitTry(TryTree tree, Void none) {
        rule(6, false, "a try in " + method + ": nothing here throws what could be caught");
        return super.visitTry(tree, none);
    }

    @Override
    public Void visitLambdaExpression(LambdaExpressionTree tree, Void none) {
        rule(2, false, "a lambda in " + method);
        return super.visitLambdaExpression(tree, none);
    }

    @Override
    public Void visitMemberReference(MemberReferenceTree tree, Void none) {
        rule(2, false, "a method reference in " + method);
        return super.visitMemberReference(tree, none);
    }

    @Override
    public Void visitSynchronized(SynchronizedTree tree, Void none) {
        rule(6, false, "synchronized in " + method);
        return super.visitSynchronized(tree, none);
    }

    @Override
    public Void visitAssert(AssertTree tree, Void none) {
        rule(6, false, "assert in " + method);
        return super.visitAssert(tree, none);
    }

    @Override
    public Void visitBinary(BinaryTree tree, Void none) {
        TypeKind kind = trees.getTypeMirror(getCurrentPath()).getKind();
        rule(10, kind.isPrimitive(), "a text is joined in " + method);
        return super.visitBinary(tree, none);
    }
}
