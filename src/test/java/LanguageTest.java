import com.sun.source.tree.ClassTree;
import com.sun.source.tree.CompilationUnitTree;
import com.sun.source.tree.ExpressionTree;
import com.sun.source.tree.IdentifierTree;
import com.sun.source.tree.LineMap;
import com.sun.source.tree.LiteralTree;
import com.sun.source.tree.MethodInvocationTree;
import com.sun.source.tree.MethodTree;
import com.sun.source.tree.NewArrayTree;
import com.sun.source.tree.Tree;
import com.sun.source.tree.VariableTree;
import com.sun.source.util.JavacTask;
import com.sun.source.util.SourcePositions;
import com.sun.source.util.TreeScanner;
import com.sun.source.util.Trees;
import java.io.File;
import java.io.IOException;
import java.lang.reflect.Field;
import java.lang.reflect.Method;
import java.lang.reflect.Modifier;
import java.util.Arrays;
import java.util.EnumSet;
import java.util.HashMap;
import java.util.List;
import java.util.Map;
import java.util.Set;
import java.util.TreeSet;
import javax.tools.JavaCompiler;
import javax.tools.JavaFileObject;
import javax.tools.StandardJavaFileManager;
import javax.tools.ToolProvider;

/** The rules of LANGUAGE.md that can be read off the source and the class, and the document's public face. */
public final class LanguageTest extends TreeScanner<Void, Void> {
    private static final File SOURCE = new File("src/main/java/EventStore.java");
    private static final Set<String> TYPES = Set.of("int", "long", "short", "byte", "char", "boolean", "void");
    private static final Set<Tree.Kind> REFUSED = EnumSet.of(Tree.Kind.THROW, Tree.Kind.TRY, Tree.Kind.SYNCHRONIZED,
        Tree.Kind.ASSERT, Tree.Kind.INSTANCE_OF, Tree.Kind.LAMBDA_EXPRESSION, Tree.Kind.MEMBER_REFERENCE,
        Tree.Kind.NEW_CLASS, Tree.Kind.MEMBER_SELECT, Tree.Kind.NULL_LITERAL, Tree.Kind.STRING_LITERAL);
    private static final String FACE = "answer(int,int,boolean)boolean append(int,int)int cell(int,int,int)int"
        + " code(int,int)boolean crash(int)int cut(int,int)int define(int)int drop(int)int event(int,int)boolean"
        + " flush()int form(int,int)int found(int)int group(int,int)int next(int)int note(int)int position(int)int"
        + " read(int,int)int scavenge()int size(int)int take(int)int tick(int)int total(int,int,int)long"
        + " version(int)int work(int,int)int";

    private final Map<String, Set<String>> calls = new HashMap<>();
    private final SourcePositions positions;
    private final CompilationUnitTree unit;
    private String method = "";
    private boolean inArguments = false;

    private LanguageTest(SourcePositions positions, CompilationUnitTree unit) {
        this.positions = positions;
        this.unit = unit;
    }

    public static void main(String[] args) throws IOException {
        publicFace();
        fields();
        JavaCompiler compiler = ToolProvider.getSystemJavaCompiler();
        try (StandardJavaFileManager files = compiler.getStandardFileManager(null, null, null)) {
            Iterable<? extends JavaFileObject> source = files.getJavaFileObjects(SOURCE);
            JavacTask task = (JavacTask) compiler.getTask(null, files, null, null, null, source);
            for (CompilationUnitTree unit : task.parse()) {
                new LanguageTest(Trees.instance(task).getSourcePositions(), unit).look();
            }
        }
        Due.end();
    }

    private static void publicFace() {
        Set<String> face = new TreeSet<>();
        Set<String> hidden = new TreeSet<>();
        for (Method m : EventStore.class.getDeclaredMethods()) {
            String parameters = String.join(",", Arrays.stream(m.getParameterTypes()).map(Class::getName).toList());
            if (Modifier.isPrivate(m.getModifiers())) {
                hidden.add(m.getName());
            } else {
                face.add(m.getName() + "(" + parameters + ")" + m.getReturnType().getName());
                Due.yes("rule 1: " + m.getName() + " is public", Modifier.isPublic(m.getModifiers()));
            }
        }
        Due.yes("rule 1: the public face, which is " + face, face.equals(new TreeSet<>(List.of(FACE.split(" ")))));
        for (String signature : face) {
            Due.no("rule 1: a private " + signature, hidden.contains(signature.substring(0, signature.indexOf('('))));
        }
        Due.is("rule 1: constructors", 1, EventStore.class.getConstructors().length);
        Due.is("rule 1: nested classes", 0, EventStore.class.getDeclaredClasses().length);
        Due.yes("rule 1: final", Modifier.isFinal(EventStore.class.getModifiers()));
    }

    private static void fields() {
        int fields = 0;
        Set<String> open = new TreeSet<>();
        for (Field f : EventStore.class.getDeclaredFields()) {
            boolean isStatic = Modifier.isStatic(f.getModifiers());
            fields += isStatic ? 0 : 1;
            if (!Modifier.isPrivate(f.getModifiers())) {
                open.add(f.getName());
            }
            Due.yes("rule 5: " + f, !isStatic
                || Modifier.isFinal(f.getModifiers()) && (f.getType() == int.class || f.getType() == long.class));
        }
        Due.yes("rule 1: public constants, which are " + open,
            open.equals(Set.of("OK", "BAD", "CONFLICT", "FULL", "NONE", "FAULTY")));
        Due.yes("rule 10: " + fields + " fields", fields <= 40);
    }

    private void look() {
        Due.is("rule 3: imports", 0, unit.getImports().size());
        Due.yes("no package", unit.getPackage() == null);
        scan(unit, null);
        for (String name : calls.keySet()) {
            int depth = depth(name, 0);
            Due.yes("rules 8 and 10: calls go " + depth + " deep from " + name, depth <= 6);
        }
    }

    /** How deep calls go from a method, itself included; above 6 it is cut off, as a recursion would never end. */
    private int depth(String name, int above) {
        int most = 0;
        for (String callee : calls.getOrDefault(name, Set.of())) {
            most = above > 6 ? most : Math.max(most, depth(callee, above + 1));
        }
        return most + 1;
    }

    private void refuse(String rule, Tree tree) {
        LineMap lines = unit.getLineMap();
        Due.no(rule + " in line " + lines.getLineNumber(positions.getStartPosition(unit, tree)), true);
    }

    @Override
    public Void scan(Tree tree, Void none) {
        if (tree != null && REFUSED.contains(tree.getKind())) {
            refuse("rules 2, 3, 4 and 6: " + tree.getKind(), tree);
        }
        return super.scan(tree, none);
    }

    @Override
    public Void visitClass(ClassTree tree, Void none) {
        for (Tree member : tree.getMembers()) {
            if (member.getKind() == Tree.Kind.BLOCK) {
                refuse("rule 5: an initialiser block", member);
            }
        }
        return super.visitClass(tree, none);
    }

    @Override
    public Void visitMethod(MethodTree tree, Void none) {
        method = tree.getName().toString();
        calls.putIfAbsent(method, new TreeSet<>());
        LineMap lines = unit.getLineMap();
        long first = lines.getLineNumber(positions.getStartPosition(unit, tree));
        long last = lines.getLineNumber(positions.getEndPosition(unit, tree));
        Due.yes("rule 10: " + method + " has " + (last - first + 1) + " lines", last - first < 60);
        Due.yes("rule 10: parameters of " + method, tree.getParameters().size() <= 7);
        if (tree.getReturnType() != null && !TYPES.contains(tree.getReturnType().toString())) {
            refuse("rules 2 and 4: what " + method + " answers", tree);
        }
        super.visitMethod(tree, none);
        method = "";
        return null;
    }

    @Override
    public Void visitVariable(VariableTree tree, Void none) {
        String type = tree.getType().toString();
        if (!TYPES.contains(type.endsWith("[]") ? type.substring(0, type.length() - 2) : type)) {
            refuse("rule 2: type " + type, tree);
        }
        return super.visitVariable(tree, none);
    }

    @Override
    public Void visitMethodInvocation(MethodInvocationTree tree, Void none) {
        if (inArguments) {
            refuse("rule 10: a call inside the arguments of another call", tree);
        }
        if (!(tree.getMethodSelect() instanceof IdentifierTree)) {
            refuse("rule 3: a call on something", tree);
        }
        calls.get(method).add(tree.getMethodSelect().toString());
        boolean outer = inArguments;
        inArguments = true;
        scan(tree.getArguments(), none);
        inArguments = outer;
        return null;
    }

    @Override
    public Void visitNewArray(NewArrayTree tree, Void none) {
        boolean plain = tree.getDimensions().size() == 1 && tree.getInitializers() == null;
        for (ExpressionTree length : tree.getDimensions()) {
            plain &= length instanceof LiteralTree || length instanceof IdentifierTree;
        }
        if (!method.isEmpty() || !plain) {
            refuse("rule 4: an array", tree);
        }
        return super.visitNewArray(tree, none);
    }
}
