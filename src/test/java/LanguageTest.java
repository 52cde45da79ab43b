import com.sun.source.tree.*;
import com.sun.source.util.JavacTask;
import com.sun.source.util.SourcePositions;
import com.sun.source.util.TreeScanner;
import com.sun.source.util.Trees;
import java.nio.file.Files;
import java.nio.file.Path;
import java.util.EnumSet;
import java.util.HashSet;
import java.util.List;
import java.util.Set;
import javax.lang.model.element.Modifier;
import javax.tools.JavaCompiler;
import javax.tools.StandardJavaFileManager;
import javax.tools.ToolProvider;

/**
 * What LANGUAGE.md asks of the program, as far as it is seen from its tree. It is stricter than
 * the rules where the program needs less than they leave: no list, no text, no fraction, and
 * nothing made but in constructors.
 */
public final class LanguageTest {
    private static final Due due = new Due();
    private static final Path PROGRAM = Path.of("src/main/java/NightStalls.java");
    private static final int MOST_CLASSES = 12;
    private static final int MOST_FIELDS = 20;
    private static final int MOST_PARAMETERS = 7;
    private static final int MOST_LINES = 60;

    private static final Set<Tree.Kind> RULED_OUT = EnumSet.of(
            Tree.Kind.PACKAGE, Tree.Kind.IMPORT, Tree.Kind.THROW, Tree.Kind.TRY,
            Tree.Kind.SYNCHRONIZED, Tree.Kind.ASSERT, Tree.Kind.LAMBDA_EXPRESSION,
            Tree.Kind.MEMBER_REFERENCE, Tree.Kind.BINDING_PATTERN, Tree.Kind.TYPE_CAST,
            Tree.Kind.INSTANCE_OF, Tree.Kind.DOUBLE_LITERAL, Tree.Kind.FLOAT_LITERAL,
            Tree.Kind.STRING_LITERAL, Tree.Kind.ENUM, Tree.Kind.INTERFACE, Tree.Kind.RECORD,
            Tree.Kind.ANNOTATION_TYPE);
    private static final Set<String> LIBRARY =
            Set.of("Math.abs", "Math.min", "Math.max", "System.arraycopy");
    private static final Set<String> OWN =
            Set.of("NightStalls", "Street", "Plan", "Night", "Guests");

    public static void main(String[] args) throws Exception {
        JavaCompiler compiler = ToolProvider.getSystemJavaCompiler();
        try (StandardJavaFileManager files = compiler.getStandardFileManager(null, null, null)) {
            JavacTask task = (JavacTask) compiler.getTask(null, files, null, null, null,
                    files.getJavaFileObjects(PROGRAM));
            CompilationUnitTree unit = task.parse().iterator().next();
            due.promise("LANGUAGE.md");
            due.is("types of the file itself", unit.getTypeDecls().size(), 1);
            Reader reader = new Reader(unit, Trees.instance(task).getSourcePositions());
            reader.scan(unit, null);
            due.holds("classes: " + reader.classes, reader.classes <= MOST_CLASSES);
            for (String name : reader.open) {
                due.holds("no private method bears the name " + name,
                        !reader.hidden.contains(name));
            }
        }
        signs();
        due.end();
    }

    private static void signs() throws Exception {
        for (char sign : Files.readString(PROGRAM).toCharArray()) {
            if (sign != '\n' && (sign < 32 || sign > 126)) {
                due.holds("the sign " + (int) sign, false);
            }
        }
    }

    /** Reads the tree, and holds each part of it against the rules. */
    private static final class Reader extends TreeScanner<Void, Void> {
        private final CompilationUnitTree unit;
        private final SourcePositions positions;
        private final Set<String> open = new HashSet<>();
        private final Set<String> hidden = new HashSet<>();
        private int classes = 0;
        private boolean isOuter = false;
        private boolean isConstructor = false;
        private boolean isInMethod = false;

        Reader(CompilationUnitTree unit, SourcePositions positions) {
            this.unit = unit;
            this.positions = positions;
        }

        private long lineOf(long position) {
            return unit.getLineMap().getLineNumber(position);
        }

        private String at(Tree tree) {
            return "line " + lineOf(positions.getStartPosition(unit, tree)) + ": ";
        }

        @Override
        public Void scan(Tree tree, Void none) {
            if (tree != null) {
                due.holds(at(tree) + "no " + tree.getKind(), !RULED_OUT.contains(tree.getKind()));
            }
            return super.scan(tree, none);
        }

        @Override
        public Void visitClass(ClassTree tree, Void none) {
            classes++;
            due.holds(at(tree) + "no class in a method", !isInMethod);
            isOuter = classes == 1;
            Set<Modifier> marks = tree.getModifiers().getFlags();
            due.holds(at(tree) + "a class inside is static", isOuter
                    || marks.contains(Modifier.STATIC) && !marks.contains(Modifier.PUBLIC));
            int fields = 0;
            for (Tree member : tree.getMembers()) {
                due.holds(at(member) + "no block of the class itself",
                        member.getKind() != Tree.Kind.BLOCK);
                if (member instanceof VariableTree field) {
                    fields += isStatic(field) ? 0 : 1;
                    field(field);
                } else if (member instanceof MethodTree method) {
                    method(method);
                }
            }
            due.holds(at(tree) + "fields: " + fields, fields <= MOST_FIELDS);
            return super.visitClass(tree, none);
        }

        private static boolean isStatic(VariableTree field) {
            return field.getModifiers().getFlags().contains(Modifier.STATIC);
        }

        private void field(VariableTree field) {
            Set<Modifier> marks = field.getModifiers().getFlags();
            String type = field.getType().toString();
            if (isStatic(field)) {
                boolean isNumbers = field.getInitializer() instanceof NewArrayTree row
                        && row.getInitializers() != null && row.getDimensions().isEmpty();
                due.holds(at(field) + "a constant", marks.contains(Modifier.FINAL)
                        && (type.equals("int") || type.equals("int[]") && isNumbers));
            } else {
                due.holds(at(field) + "a field is private", marks.contains(Modifier.PRIVATE));
            }
        }

        private void method(MethodTree method) {
            Set<Modifier> marks = method.getModifiers().getFlags();
            due.holds(at(method) + "parameters",
                    method.getParameters().size() <= MOST_PARAMETERS);
            long lines = lineOf(positions.getEndPosition(unit, method))
                    - lineOf(positions.getStartPosition(unit, method)) + 1;
            due.holds(at(method) + "lines: " + lines, lines <= MOST_LINES);
            if (isOuter) {
                due.holds(at(method) + "public, or private", marks.contains(Modifier.PUBLIC)
                        || marks.contains(Modifier.PRIVATE));
            }
            (marks.contains(Modifier.PUBLIC) ? open : hidden).add(method.getName().toString());
            if (method.getName().contentEquals("<init>")) {
                open.remove("<init>");
            }
        }

        @Override
        public Void visitMethod(MethodTree tree, Void none) {
            isInMethod = true;
            isConstructor = tree.getName().contentEquals("<init>");
            super.visitMethod(tree, none);
            isInMethod = false;
            isConstructor = false;
            return null;
        }

        @Override
        public Void visitVariable(VariableTree tree, Void none) {
            String type = tree.getType().toString();
            due.holds(at(tree) + "the type " + type,
                    List.of("int", "boolean", "int[]").contains(type) || OWN.contains(type));
            return super.visitVariable(tree, none);
        }

        @Override
        public Void visitNewArray(NewArrayTree tree, Void none) {
            due.holds(at(tree) + "a row is made in a constructor", isConstructor || !isInMethod);
            due.holds(at(tree) + "a row has one dimension", tree.getDimensions().size() <= 1);
            return super.visitNewArray(tree, none);
        }

        @Override
        public Void visitNewClass(NewClassTree tree, Void none) {
            due.holds(at(tree) + "an object is made in a constructor", isConstructor);
            due.holds(at(tree) + "an own class", OWN.contains(tree.getIdentifier().toString()));
            due.holds(at(tree) + "no class without a name", tree.getClassBody() == null);
            return super.visitNewClass(tree, none);
        }

        @Override
        public Void visitMemberSelect(MemberSelectTree tree, Void none) {
            boolean isOfClass = Character.isUpperCase(tree.toString().charAt(0));
            due.holds(at(tree) + tree + " is one that may be used",
                    !isOfClass || LIBRARY.contains(tree.toString()));
            return super.visitMemberSelect(tree, none);
        }
    }
}
