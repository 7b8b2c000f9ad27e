import com.sun.source.tree.BinaryTree;
import com.sun.source.tree.ClassTree;
import com.sun.source.tree.CompilationUnitTree;
import com.sun.source.tree.IdentifierTree;
import com.sun.source.tree.MemberSelectTree;
import com.sun.source.tree.MethodInvocationTree;
import com.sun.source.tree.MethodTree;
import com.sun.source.tree.NewArrayTree;
import com.sun.source.tree.NewClassTree;
import com.sun.source.tree.Tree;
import com.sun.source.tree.VariableTree;
import com.sun.source.util.JavacTask;
import com.sun.source.util.TreeScanner;
import java.io.File;
import java.io.IOException;
import java.lang.reflect.Field;
import java.lang.reflect.Method;
import java.lang.reflect.Modifier;
import java.util.Arrays;
import java.util.EnumSet;
import java.util.HashMap;
import java.util.List;
import java.util.Map;
import java.util.Set;
import java.util.TreeSet;
import javax.tools.JavaCompiler;
import javax.tools.StandardJavaFileManager;
import javax.tools.ToolProvider;

// The public face, and those rules of LANGUAGE.md that can be read off the program's text.
public final class LanguageTest {
    private static final String PROGRAM = "src/main/java/WellBack.java";

    private static final Set<String> FACE = new TreeSet<>(List.of(
        "int well(int,int,int,int)", "int ofThing(int,int)", "int draws(int)", "int weigh(int,int)", "int dig(int)",
        "int hire(int,int)", "int drop(int,int,int,int)", "int hands(int,int)", "int home(int)", "int meets(int)",
        "int hours(int,int,int,int,int)", "int when(int,int)", "int best(int)", "int reading(int,int,int)",
        "int back(int)", "int weights(int)", "int kinds(int)", "int depths()", "long odds(int,int)",
        "int sheet(int,int,int)", "int lose(int)", "int put(int,int,int)", "long cell(int,int,int)",
        "int copy(int,int,int,int,int)", "int tell(int)", "int splash(int)", "int as(int,int)", "int trace()",
        "int fault()", "int many(int)"));

    private static final Set<String> CONSTANTS = new TreeSet<>(List.of(
        "int UNKNOWN -1", "int OUTSIDE -2", "int STATE -3", "int FULL -4", "int NONE -9",
        "long LOST -9223372036854775808"));

    private static final Set<Tree.Kind> RULED_OUT = EnumSet.of(
        Tree.Kind.IMPORT, Tree.Kind.PACKAGE, Tree.Kind.LAMBDA_EXPRESSION, Tree.Kind.MEMBER_REFERENCE,
        Tree.Kind.THROW, Tree.Kind.TRY, Tree.Kind.CATCH, Tree.Kind.SYNCHRONIZED, Tree.Kind.ASSERT,
        Tree.Kind.BINDING_PATTERN, Tree.Kind.STRING_LITERAL, Tree.Kind.DOUBLE_LITERAL, Tree.Kind.FLOAT_LITERAL,
        Tree.Kind.ENHANCED_FOR_LOOP);

    // Of the types that rule 3 leaves those that the program may need, beside its own classes and rows.
    private static final Set<String> NUMBERS = Set.of("int", "long", "short", "byte", "char", "boolean");

    private static int wrong = 0;

    public static void main(String[] args) throws IOException, IllegalAccessException {
        face();
        CompilationUnitTree unit = parse();
        new Rules(unit).scan(unit, null);
        System.out.println(wrong == 0 ? "LanguageTest: all as ruled" : "LanguageTest: " + wrong + " against the rules");
        if (wrong != 0) {
            System.exit(1);
        }
    }

    private static void rule(boolean kept, String what) {
        if (!kept) {
            wrong++;
            System.out.println("against the rules: " + what);
        }
    }

    private static void face() throws IllegalAccessException {
        rule(Modifier.isPublic(WellBack.class.getModifiers()) && Modifier.isFinal(WellBack.class.getModifiers()),
            "the class is public and final");
        rule(WellBack.class.getDeclaredConstructors().length == 1
            && WellBack.class.getConstructors().length == 1
            && WellBack.class.getConstructors()[0].getParameterCount() == 0, "one public constructor");
        Set<String> methods = new TreeSet<>();
        for (Method m : WellBack.class.getDeclaredMethods()) {
            if (Modifier.isPublic(m.getModifiers())) {
                StringBuilder types = new StringBuilder();
                Arrays.stream(m.getParameterTypes()).forEach(t -> types.append(types.length() == 0 ? "" : ",").append(t));
                methods.add(m.getReturnType() + " " + m.getName() + "(" + types + ")");
            } else {
                rule(Modifier.isPrivate(m.getModifiers()), m + " is neither public nor private");
                rule(FACE.stream().noneMatch(f -> f.contains(" " + m.getName() + "(")), m + " bears a public name");
            }
        }
        rule(methods.equals(FACE), "the methods are " + methods);
        Set<String> constants = new TreeSet<>();
        for (Field f : WellBack.class.getDeclaredFields()) {
            if (Modifier.isPublic(f.getModifiers())) {
                rule(Modifier.isStatic(f.getModifiers()) && Modifier.isFinal(f.getModifiers()), f + " is a constant");
                constants.add(f.getType() + " " + f.getName() + " " + f.get(null));
            } else {
                rule(Modifier.isPrivate(f.getModifiers()), f + " is neither public nor private");
            }
        }
        rule(constants.equals(CONSTANTS), "the constants are " + constants);
        for (Class<?> inside : WellBack.class.getDeclaredClasses()) {
            rule(Modifier.isStatic(inside.getModifiers()) && !Modifier.isPublic(inside.getModifiers())
                && !Modifier.isProtected(inside.getModifiers()), inside + " is static and not public");
        }
    }

    private static CompilationUnitTree parse() throws IOException {
        JavaCompiler compiler = ToolProvider.getSystemJavaCompiler();
        try (StandardJavaFileManager files = compiler.getStandardFileManager(null, null, null)) {
            JavacTask task = (JavacTask) compiler.getTask(null, files, null, List.of("--release", "17"), null,
                files.getJavaFileObjects(new File(PROGRAM)));
            return task.parse().iterator().next();
        }
    }

    private static final class Rules extends TreeScanner<Void, Void> {
        private final CompilationUnitTree unit;
        private final Map<String, Set<String>> calls = new HashMap<>();
        private final Set<String> own = new TreeSet<>();
        private String method = "";
        private int classes = 0;
        private int level = 0;

        Rules(CompilationUnitTree unit) {
            this.unit = unit;
        }

        @Override public Void visitCompilationUnit(CompilationUnitTree tree, Void none) {
            rule(tree.getTypeDecls().size() == 1, "one class at the top");
            rule(text(unit).chars().allMatch(sign -> sign > 0 && sign < 128), "signs 1 to 127 alone");
            for (Tree inside : ((ClassTree) tree.getTypeDecls().get(0)).getMembers()) {
                if (inside instanceof ClassTree c) {
                    own.add(c.getSimpleName().toString());
                }
            }
            super.visitCompilationUnit(tree, none);
            rule(classes <= 12, "at most twelve classes");
            calls.keySet().forEach(name -> rule(deep(name, 0) <= 8, name + " calls more than eight deep"));
            return none;
        }

        private static String text(CompilationUnitTree unit) {
            try {
                return unit.getSourceFile().getCharContent(true).toString();
            } catch (IOException e) {
                return String.valueOf((char) 128);
            }
        }

        private boolean isLeft(String type) {
            return NUMBERS.contains(type.replaceFirst("\\[]$", "")) || own.contains(type.replaceFirst("\\[]$", ""));
        }

        @Override public Void visitVariable(VariableTree tree, Void none) {
            rule(isLeft(tree.getType().toString()), "a type that no test here knows: " + tree);
            if (isStatic(tree)) {
                rule(NUMBERS.contains(tree.getType().toString()), tree + " is no constant of a number");
            }
            return super.visitVariable(tree, none);
        }

        // A name that calls itself counts as too deep: there is no recursion in the program.
        private int deep(String name, int above) {
            if (above > 20 || !calls.containsKey(name)) {
                return above > 20 ? 99 : 0;
            }
            return 1 + calls.get(name).stream().mapToInt(called -> deep(called, above + 1)).max().orElse(0);
        }

        @Override public Void scan(Tree tree, Void none) {
            if (tree != null) {
                rule(!RULED_OUT.contains(tree.getKind()), tree.getKind() + ": " + tree);
            }
            return super.scan(tree, none);
        }

        @Override public Void visitClass(ClassTree tree, Void none) {
            classes++;
            level++;
            rule(method.isEmpty(), "a local or anonymous class: " + tree);
            long fields = tree.getMembers().stream().filter(m -> m instanceof VariableTree v && !isStatic(v)).count();
            rule(fields <= 20, tree.getSimpleName() + " has " + fields + " fields");
            rule(tree.getMembers().stream().noneMatch(m -> m.getKind() == Tree.Kind.BLOCK), "a block in a class");
            for (Tree member : tree.getMembers()) {
                if (member instanceof VariableTree v && isStatic(v)) {
                    rule(v.getModifiers().getFlags().contains(javax.lang.model.element.Modifier.FINAL), v + " is final");
                }
            }
            super.visitClass(tree, none);
            level--;
            return none;
        }

        private static boolean isStatic(VariableTree v) {
            return v.getModifiers().getFlags().contains(javax.lang.model.element.Modifier.STATIC);
        }

        @Override public Void visitMethod(MethodTree tree, Void none) {
            method = tree.getName().toString();
            calls.computeIfAbsent(method, name -> new TreeSet<>());
            rule(tree.getParameters().size() <= 7, method + " takes more than seven parameters");
            rule(tree.toString().strip().lines().count() <= 60, method + " has more than sixty lines");
            rule(level == 1 || FACE.stream().noneMatch(f -> f.contains(" " + tree.getName() + "(")),
                method + " bears a public name");
            rule(tree.getReturnType() == null || tree.getReturnType().toString().equals("void")
                || isLeft(tree.getReturnType().toString()), method + " gives a type that no test here knows");
            rule(!List.of("equals", "hashCode", "toString").contains(method), method + " is not to be written");
            super.visitMethod(tree, none);
            method = "";
            return none;
        }

        @Override public Void visitMethodInvocation(MethodInvocationTree tree, Void none) {
            String called = tree.getMethodSelect() instanceof MemberSelectTree m ? m.getIdentifier().toString()
                : tree.getMethodSelect().toString();
            calls.computeIfAbsent(method, name -> new TreeSet<>()).add(called);
            return super.visitMethodInvocation(tree, none);
        }

        // All rows and objects are made with the object itself: a call makes none.
        @Override public Void visitNewClass(NewClassTree tree, Void none) {
            rule(method.isEmpty() || method.equals("<init>"), method + " makes " + tree);
            return super.visitNewClass(tree, none);
        }

        @Override public Void visitNewArray(NewArrayTree tree, Void none) {
            rule(method.isEmpty() || method.equals("<init>"), method + " makes " + tree);
            return super.visitNewArray(tree, none);
        }

        @Override public Void visitMemberSelect(MemberSelectTree tree, Void none) {
            if (tree.getExpression() instanceof IdentifierTree of && List.of("Math", "System").contains(of.toString())) {
                rule(List.of("max", "min", "arraycopy").contains(tree.getIdentifier().toString()), tree.toString());
            }
            return super.visitMemberSelect(tree, none);
        }

        @Override public Void visitBinary(BinaryTree tree, Void none) {
            if (tree.getKind() == Tree.Kind.DIVIDE || tree.getKind() == Tree.Kind.REMAINDER) {
                rule(tree.getRightOperand().toString().matches("measure|places|CODES_OF_THING"),
                    "a divisor that no test here knows: " + tree + " in " + unit.getSourceFile().getName());
            }
            return super.visitBinary(tree, none);
        }
    }
}
