import com.sun.source.tree.AssertTree;
import com.sun.source.tree.BinaryTree;
import com.sun.source.tree.ClassTree;
import com.sun.source.tree.CompilationUnitTree;
import com.sun.source.tree.ForLoopTree;
import com.sun.source.tree.LambdaExpressionTree;
import com.sun.source.tree.MemberReferenceTree;
import com.sun.source.tree.MemberSelectTree;
import com.sun.source.tree.MethodInvocationTree;
import com.sun.source.tree.MethodTree;
import com.sun.source.tree.NewClassTree;
import com.sun.source.tree.SynchronizedTree;
import com.sun.source.tree.ThrowTree;
import com.sun.source.tree.Tree;
import com.sun.source.tree.TryTree;
import com.sun.source.tree.TypeCastTree;
import com.sun.source.tree.VariableTree;
import com.sun.source.util.JavacTask;
import com.sun.source.util.TreePath;
import com.sun.source.util.TreePathScanner;
import com.sun.source.util.Trees;
import java.io.IOException;
import java.nio.file.Files;
import java.nio.file.Path;
import java.util.Collections;
import java.util.LinkedHashMap;
import java.util.LinkedHashSet;
import java.util.List;
import java.util.Map;
import java.util.Set;
import java.util.TreeSet;
import java.util.regex.Pattern;
import javax.lang.model.element.Element;
import javax.lang.model.element.ElementKind;
import javax.lang.model.element.ExecutableElement;
import javax.lang.model.element.Modifier;
import javax.lang.model.element.NestingKind;
import javax.lang.model.element.TypeElement;
import javax.lang.model.element.VariableElement;
import javax.tools.JavaCompiler;
import javax.tools.StandardJavaFileManager;
import javax.tools.ToolProvider;

/** The rules of LANGUAGE.md, as far as the compiler's own tree of the class can show them. */
public final class LanguageTest extends TreePathScanner<Void, Void> {
    private static final Path FILE = Path.of("src/main/java/DugBySaid.java");
    private static final int MOST_CLASSES = 12, MOST_FIELDS = 20, MOST_PARAMETERS = 7, MOST_LINES = 60, DEEPEST = 8;
    /** Rule 4, but for lists, which the class does without. */
    private static final Pattern LIBRARY = Pattern.compile("java\\.lang\\.(Object\\.<init>"
            + "|String\\.(length|charAt|isEmpty|equals|indexOf|substring|toCharArray)"
            + "|StringBuilder\\.(append|charAt|setCharAt|setLength|deleteCharAt|reverse|length|toString)"
            + "|(Integer|Long|Math)\\.(compare|max|min|abs|bitCount|floorDiv|floorMod)|System\\.arraycopy)");
    private static final Pattern TYPE =
            Pattern.compile("((int|long|short|byte|char|boolean)(\\[\\])?|void|java\\.lang\\.String|DugBySaid(\\.\\w+)?(\\[\\])?)");
    private static final Set<String> CONSTANT_TYPES = Set.of("int", "long", "boolean", "char", "java.lang.String");

    private static final Set<Modifier> BANNED_FLAGS =
            Set.of(Modifier.PROTECTED, Modifier.SYNCHRONIZED, Modifier.NATIVE, Modifier.VOLATILE, Modifier.TRANSIENT);

    private final Trees trees;
    private final CompilationUnitTree unit;
    private final Map<Element, Set<Element>> calls = new LinkedHashMap<>();
    private final Set<String> publicNames = new TreeSet<>();
    private final Set<String> privateNames = new TreeSet<>();
    private int classes = 0;
    private Element caller = null;

    private LanguageTest(Trees trees, CompilationUnitTree unit) {
        this.trees = trees;
        this.unit = unit;
    }

    public static void main(String[] args) throws IOException {
        String source = Files.readString(FILE);
        Check.holds("signs are 1 to 127", source.chars().allMatch(sign -> sign >= 1 && sign <= 127));
        JavaCompiler compiler = ToolProvider.getSystemJavaCompiler();
        try (StandardJavaFileManager files = compiler.getStandardFileManager(null, null, null)) {
            List<String> options = List.of("-proc:none");
            JavacTask task = (JavacTask) compiler.getTask(null, files, null, options, null, files.getJavaFileObjects(FILE));
            for (CompilationUnitTree unit : task.parse()) {
                task.analyze();
                new LanguageTest(Trees.instance(task), unit).go();
            }
        }
        Check.end();
    }

    private void go() {
        Check.holds("no package", unit.getPackageName() == null);
        Check.holds("no import", unit.getImports().isEmpty());
        Check.due("classes of the file's own", unit.getTypeDecls().size(), 1);
        scan(unit, null);
        Check.holds(classes + " classes", classes <= MOST_CLASSES);
        for (String name : publicNames) {
            Check.holds("no private method is called " + name, !privateNames.contains(name));
        }
        for (Element method : calls.keySet()) {
            int depth = depth(method, new LinkedHashSet<>());
            Check.holds(method + " goes " + depth + " deep", depth <= DEEPEST);
        }
    }

    /** How many calls stand open at most, with this one; recursion, which the class does without, is told as too deep. */
    private int depth(Element method, Set<Element> open) {
        if (!open.add(method)) {
            Check.holds("no recursion: " + open, false);
            return DEEPEST + 1;
        }
        int deepest = 0;
        for (Element called : calls.getOrDefault(method, Set.of())) {
            deepest = Math.max(deepest, depth(called, open));
        }
        open.remove(method);
        return deepest + 1;
    }

    @Override
    public Void visitClass(ClassTree tree, Void nothing) {
        classes++;
        TypeElement type = (TypeElement) trees.getElement(getCurrentPath());
        boolean nested = type.getNestingKind() == NestingKind.MEMBER;
        Check.holds(type + " stands in the file or in a class", nested || type.getNestingKind() == NestingKind.TOP_LEVEL);
        Check.holds(type + " is static and not public, if nested",
                !nested || type.getModifiers().contains(Modifier.STATIC) && !type.getModifiers().contains(Modifier.PUBLIC));
        int fields = 0;
        for (Tree member : tree.getMembers()) {
            boolean isField = member instanceof VariableTree;
            fields += isField && !((VariableTree) member).getModifiers().getFlags().contains(Modifier.STATIC) ? 1 : 0;
            Check.holds(type + " has no initialiser block", member.getKind() != Tree.Kind.BLOCK);
        }
        Check.holds(type + " has " + fields + " fields", fields <= MOST_FIELDS);
        return super.visitClass(tree, nothing);
    }

    @Override
    public Void visitMethod(MethodTree tree, Void nothing) {
        ExecutableElement method = (ExecutableElement) trees.getElement(getCurrentPath());
        caller = method;
        calls.putIfAbsent(method, new LinkedHashSet<>());
        Set<Modifier> flags = method.getModifiers();
        String name = method.getSimpleName().toString();
        if (flags.contains(Modifier.PUBLIC)) {
            publicNames.add(name);
        } else if (!name.equals("<init>")) {
            privateNames.add(name);
        }
        Check.holds(method + " is none of these: " + BANNED_FLAGS, Collections.disjoint(flags, BANNED_FLAGS));
        Check.holds(method + " takes seven at most", tree.getParameters().size() <= MOST_PARAMETERS);
        Check.holds(method + " is short", lines(tree) <= MOST_LINES);
        Check.holds(method + " answers a plain type", TYPE.matcher(method.getReturnType().toString()).matches());
        super.visitMethod(tree, nothing);
        caller = null;
        return null;
    }

    private long lines(Tree tree) {
        long start = trees.getSourcePositions().getStartPosition(unit, tree);
        long end = trees.getSourcePositions().getEndPosition(unit, tree);
        return unit.getLineMap().getLineNumber(end) - unit.getLineMap().getLineNumber(start) + 1;
    }

    @Override
    public Void visitVariable(VariableTree tree, Void nothing) {
        VariableElement variable = (VariableElement) trees.getElement(getCurrentPath());
        String type = variable.asType().toString();
        Check.holds(variable + " is of a plain type: " + type, TYPE.matcher(type).matches());
        Check.holds(variable + " is none of these: " + BANNED_FLAGS,
                Collections.disjoint(variable.getModifiers(), BANNED_FLAGS));
        if (variable.getModifiers().contains(Modifier.STATIC)) {
            Check.holds(variable + " is a constant",
                    CONSTANT_TYPES.contains(type) && variable.getConstantValue() != null);
        }
        return super.visitVariable(tree, nothing);
    }

    @Override
    public Void visitMethodInvocation(MethodInvocationTree tree, Void nothing) {
        noteCall(trees.getElement(new TreePath(getCurrentPath(), tree.getMethodSelect())));
        return super.visitMethodInvocation(tree, nothing);
    }

    @Override
    public Void visitNewClass(NewClassTree tree, Void nothing) {
        Check.holds("no class without a name", tree.getClassBody() == null);
        noteCall(trees.getElement(getCurrentPath()));
        return super.visitNewClass(tree, nothing);
    }

    private void noteCall(Element called) {
        Check.holds("a call stands in a method, and is known", caller != null && called != null);
        if (caller == null || called == null) {
            return;
        }
        String owner = called.getEnclosingElement().toString();
        if (owner.startsWith("DugBySaid")) {
            calls.computeIfAbsent(caller, method -> new LinkedHashSet<>()).add(called);
        } else {
            String name = owner + "." + called.getSimpleName();
            Check.holds("the library of rule 4 has " + name, LIBRARY.matcher(name).matches());
        }
    }

    /** Rule 4 names functions of the library, and no field but an array's length. */
    @Override
    public Void visitMemberSelect(MemberSelectTree tree, Void nothing) {
        Element member = trees.getElement(getCurrentPath());
        if (member != null && member.getKind() == ElementKind.FIELD && !tree.getIdentifier().contentEquals("length")) {
            Check.holds("a field of its own: " + tree, member.getEnclosingElement().toString().startsWith("DugBySaid"));
        }
        return super.visitMemberSelect(tree, nothing);
    }

    @Override
    public Void visitForLoop(ForLoopTree tree, Void nothing) {
        Check.holds("a loop that counts against a bound", tree.getCondition() != null && !tree.getUpdate().isEmpty());
        return super.visitForLoop(tree, nothing);
    }

    @Override
    public Void visitBinary(BinaryTree tree, Void nothing) {
        String type = trees.getTypeMirror(getCurrentPath()).toString();
        Check.holds("no text is joined by +: " + tree, !type.equals("java.lang.String"));
        return super.visitBinary(tree, nothing);
    }

    @Override
    public Void visitTypeCast(TypeCastTree tree, Void nothing) {
        Check.holds("casts are of numbers: " + tree, trees.getTypeMirror(getCurrentPath()).getKind().isPrimitive());
        return super.visitTypeCast(tree, nothing);
    }

    @Override
    public Void visitThrow(ThrowTree tree, Void nothing) {
        return banned(tree);
    }

    @Override
    public Void visitTry(TryTree tree, Void nothing) {
        return banned(tree);
    }

    @Override
    public Void visitSynchronized(SynchronizedTree tree, Void nothing) {
        return banned(tree);
    }

    @Override
    public Void visitAssert(AssertTree tree, Void nothing) {
        return banned(tree);
    }

    @Override
    public Void visitLambdaExpression(LambdaExpressionTree tree, Void nothing) {
        return banned(tree);
    }

    @Override
    public Void visitMemberReference(MemberReferenceTree tree, Void nothing) {
        return banned(tree);
    }

    private static Void banned(Tree tree) {
        Check.holds("none of this in the class: " + tree, false);
        return null;
    }
}
