import com.sun.source.tree.ArrayAccessTree;
import com.sun.source.tree.AssignmentTree;
import com.sun.source.tree.BinaryTree;
import com.sun.source.tree.ClassTree;
import com.sun.source.tree.CompoundAssignmentTree;
import com.sun.source.tree.ExpressionStatementTree;
import com.sun.source.tree.ExpressionTree;
import com.sun.source.tree.ForLoopTree;
import com.sun.source.tree.ImportTree;
import com.sun.source.tree.MethodInvocationTree;
import com.sun.source.tree.MethodTree;
import com.sun.source.tree.NewArrayTree;
import com.sun.source.tree.NewClassTree;
import com.sun.source.tree.Tree;
import com.sun.source.tree.TypeCastTree;
import com.sun.source.tree.UnaryTree;
import com.sun.source.tree.VariableTree;
import com.sun.source.util.TreePath;
import java.io.IOException;
import java.nio.file.Path;
import java.util.EnumSet;
import java.util.List;
import java.util.Set;
import java.util.stream.Collectors;
import javax.lang.model.element.Element;
import javax.lang.model.element.ElementKind;
import javax.lang.model.element.Modifier;
import javax.lang.model.type.ArrayType;
import javax.lang.model.type.DeclaredType;
import javax.lang.model.type.TypeKind;
import javax.lang.model.type.TypeMirror;

/**
 * The rules of ../shared/LANGUAGE.md that can be read off the class's tree, by their numbers. Where the class needs
 * less than a rule leaves, this test is narrower than the rule; it may be widened as far as the rule goes.
 */
public final class LanguageTest {
    private static final Check check = new Check("LanguageTest");
    private static final int MOST_LINES = 60;
    private static final int MOST_PARAMETERS = 7;
    private static final int MOST_OPEN_CALLS = 8;
    private static final int MOST_CLASSES = 12;
    private static final int MOST_FIELDS = 20;

    /** Of the rules 2, 6 and 9; a name that a later Java has is not here, since the class is compiled as Java 17. */
    private static final Set<Tree.Kind> REFUSED = EnumSet.of(Tree.Kind.THROW, Tree.Kind.TRY, Tree.Kind.CATCH,
        Tree.Kind.SYNCHRONIZED, Tree.Kind.ASSERT, Tree.Kind.LAMBDA_EXPRESSION, Tree.Kind.MEMBER_REFERENCE,
        Tree.Kind.ANNOTATION, Tree.Kind.PACKAGE, Tree.Kind.WHILE_LOOP, Tree.Kind.DO_WHILE_LOOP,
        Tree.Kind.ENHANCED_FOR_LOOP, Tree.Kind.INSTANCE_OF, Tree.Kind.STRING_LITERAL, Tree.Kind.NULL_LITERAL,
        Tree.Kind.DOUBLE_LITERAL, Tree.Kind.FLOAT_LITERAL, Tree.Kind.TYPE_PARAMETER, Tree.Kind.PARAMETERIZED_TYPE);

    /** Of rule 4, what the class needs. */
    private static final Set<String> LIBRARY = Set.of("Long.bitCount(long)", "Math.abs(int)", "Arrays.fill(int[],int)",
        "Arrays.fill(long[],long)", "System.arraycopy(java.lang.Object,int,java.lang.Object,int,int)");

    private final Source source;

    private LanguageTest(Source source) {
        this.source = source;
    }

    public static void main(String[] args) throws IOException {
        LanguageTest test = new LanguageTest(new Source(Path.of("src/main/java/DigestCaches.java")));
        test.kindsOfTree();
        test.names();
        test.classes();
        test.types();
        test.library();
        test.staticFields();
        test.castsAndComparisons();
        test.depth();
        test.loops();
        test.sizes();
        test.newObjects();
        test.constructors();
        check.end();
    }

    private void holds(int rule, String what, TreePath place, boolean is) {
        check.holds("rule " + rule + ", " + what + ", " + source.where(place), is);
    }

    private void kindsOfTree() {
        for (Tree.Kind kind : source.kinds()) {
            check.holds("rules 2 to 9: the class is without " + kind, !REFUSED.contains(kind));
        }
    }

    private void names() {
        Set<String> face = source.methods().stream().filter(method -> method.getModifiers().contains(Modifier.PUBLIC))
            .map(method -> method.getSimpleName().toString()).collect(Collectors.toSet());
        for (Element method : source.methods()) {
            Set<Modifier> modifiers = method.getModifiers();
            check.holds("rule 1, a name of its own: " + method, modifiers.contains(Modifier.PUBLIC)
                || method.getKind() == ElementKind.CONSTRUCTOR || !face.contains(method.getSimpleName().toString()));
            check.holds("rule 1, nothing protected: " + method, !modifiers.contains(Modifier.PROTECTED));
        }
    }

    private void classes() {
        List<TreePath> all = source.places(ClassTree.class);
        check.holds("rule 11, some twelve classes: " + all.size(), all.size() <= MOST_CLASSES);
        for (TreePath place : all) {
            Element one = source.element(place);
            boolean outer = one.getSimpleName().contentEquals("DigestCaches");
            holds(2, "a static class", place, outer || one.getModifiers().contains(Modifier.STATIC));
            holds(1, "not public", place, outer || !one.getModifiers().contains(Modifier.PUBLIC));
            holds(2, "no local class", place, Source.method(place.getParentPath()) == null);
            long fields = one.getEnclosedElements().stream().filter(part -> part.getKind() == ElementKind.FIELD)
                .filter(field -> !field.getModifiers().contains(Modifier.STATIC)).count();
            holds(11, "some twenty fields", place, fields <= MOST_FIELDS);
        }
    }

    private void types() {
        for (TreePath place : source.places(VariableTree.class)) {
            holds(3, "a type of the language", place, isOfTheLanguage(source.type(place)));
        }
        for (TreePath place : source.places(ImportTree.class)) {
            String name = ((ImportTree) place.getLeaf()).getQualifiedIdentifier().toString();
            holds(4, "the library's", place, Set.of("java.util.Arrays", "java.util.ArrayList", "java.util.List")
                .contains(name));
        }
    }

    private boolean isOfTheLanguage(TypeMirror type) {
        if (type instanceof ArrayType array) {
            return array.getComponentType().getKind() != TypeKind.ARRAY && isOfTheLanguage(array.getComponentType());
        }
        return isNumber(type) || type instanceof DeclaredType own && source.isOfThisFile(own.asElement());
    }

    private static boolean isNumber(TypeMirror type) {
        return type.getKind() == TypeKind.INT || type.getKind() == TypeKind.LONG || type.getKind() == TypeKind.BOOLEAN
            || type.getKind() == TypeKind.CHAR;
    }

    private void library() {
        for (TreePath place : source.places(MethodInvocationTree.class)) {
            Element called = source.element(place);
            String name = called.getEnclosingElement().getSimpleName() + "." + called;
            holds(4, "the library's: " + name, place, source.isOfThisFile(called) || LIBRARY.contains(name));
        }
    }

    private static boolean isStaticField(Element element) {
        return element != null && element.getKind() == ElementKind.FIELD
            && element.getModifiers().contains(Modifier.STATIC);
    }

    private void staticFields() {
        for (TreePath place : source.places(VariableTree.class)) {
            if (isStaticField(source.element(place))) {
                ExpressionTree given = ((VariableTree) place.getLeaf()).getInitializer();
                holds(5, "final", place, source.element(place).getModifiers().contains(Modifier.FINAL));
                holds(5, "written out", place, given instanceof NewArrayTree row ? row.getInitializers() != null
                    : given != null && isNumber(source.type(place)));
            }
        }
        for (TreePath place : source.places(ExpressionTree.class)) {
            boolean row = isStaticField(source.element(place)) && source.type(place).getKind() == TypeKind.ARRAY;
            holds(5, "a constant row is only read", place, !row || isReadAt(place.getParentPath()));
        }
        for (TreePath place : source.places(ClassTree.class)) {
            holds(5, "no static block", place, ((ClassTree) place.getLeaf()).getMembers().stream()
                .noneMatch(member -> member.getKind() == Tree.Kind.BLOCK));
        }
    }

    /** An element of a row that is not what is assigned to, counted up or counted down. */
    private static boolean isReadAt(TreePath place) {
        Tree around = place.getParentPath().getLeaf();
        return place.getLeaf() instanceof ArrayAccessTree && !isChangedBy(around, place.getLeaf());
    }

    private static boolean isChangedBy(Tree change, Tree changed) {
        if (change instanceof AssignmentTree assignment) {
            return assignment.getVariable() == changed;
        }
        if (change instanceof CompoundAssignmentTree assignment) {
            return assignment.getVariable() == changed;
        }
        return change instanceof UnaryTree && (change.getKind().name().startsWith("POSTFIX")
            || change.getKind().name().startsWith("PREFIX"));
    }

    private void castsAndComparisons() {
        for (TreePath place : source.places(TypeCastTree.class)) {
            holds(6, "a cast of a number", place, isNumber(source.type(place))
                && isNumber(source.type(place, ((TypeCastTree) place.getLeaf()).getExpression())));
        }
        for (TreePath place : source.places(BinaryTree.class)) {
            BinaryTree both = (BinaryTree) place.getLeaf();
            holds(10, "of numbers", place, isNumber(source.type(place, both.getLeftOperand()))
                && isNumber(source.type(place, both.getRightOperand())));
        }
    }

    private void depth() {
        for (Element method : source.methods()) {
            int deep = source.depth(method);
            check.holds("rules 8 and 11: " + method + " goes " + deep + " deep", deep <= MOST_OPEN_CALLS);
        }
    }

    /** Each loop counts a variable of its own against a bound, by one, and nothing else in it changes the variable. */
    private void loops() {
        for (TreePath place : source.places(ForLoopTree.class)) {
            ForLoopTree loop = (ForLoopTree) place.getLeaf();
            boolean one = loop.getInitializer().size() == 1 && loop.getUpdate().size() == 1
                && loop.getInitializer().get(0) instanceof VariableTree;
            holds(9, "one counter", place, one);
            if (one) {
                String counter = ((VariableTree) loop.getInitializer().get(0)).getName().toString();
                holds(9, "against a bound", place, loop.getCondition() != null
                    && isBounded(loop.getCondition(), counter, stepOf(loop.getUpdate().get(0), counter)));
                holds(9, "by its update alone", place, changesOf(counter, place) == 1);
            }
        }
    }

    /** 1 or -1, or 0 if the update is no step of the counter. */
    private static int stepOf(ExpressionStatementTree update, String counter) {
        boolean own = update.getExpression() instanceof UnaryTree step && step.getExpression().toString().equals(counter);
        Tree.Kind kind = update.getExpression().getKind();
        return !own ? 0 : kind == Tree.Kind.POSTFIX_INCREMENT ? 1 : kind == Tree.Kind.POSTFIX_DECREMENT ? -1 : 0;
    }

    private static boolean isBounded(ExpressionTree condition, String counter, int step) {
        if (condition.getKind() == Tree.Kind.CONDITIONAL_AND) {
            BinaryTree both = (BinaryTree) condition;
            return isBounded(both.getLeftOperand(), counter, step) || isBounded(both.getRightOperand(), counter, step);
        }
        if (!(condition instanceof BinaryTree compared) || !compared.getLeftOperand().toString().equals(counter)) {
            return false;
        }
        return switch (condition.getKind()) {
            case LESS_THAN, LESS_THAN_EQUAL -> step == 1;
            case GREATER_THAN, GREATER_THAN_EQUAL -> step == -1;
            default -> false;
        };
    }

    private long changesOf(String counter, TreePath loop) {
        return source.places(ExpressionTree.class).stream()
            .filter(place -> isWithin(place, loop.getLeaf()) && changes(place.getLeaf(), counter)).count();
    }

    private static boolean isWithin(TreePath place, Tree tree) {
        for (TreePath at = place; at != null; at = at.getParentPath()) {
            if (at.getLeaf() == tree) {
                return true;
            }
        }
        return false;
    }

    private static boolean changes(Tree tree, String counter) {
        if (tree instanceof AssignmentTree assignment) {
            return assignment.getVariable().toString().equals(counter);
        }
        if (tree instanceof CompoundAssignmentTree assignment) {
            return assignment.getVariable().toString().equals(counter);
        }
        return tree instanceof UnaryTree step && isChangedBy(step, step.getExpression())
            && step.getExpression().toString().equals(counter);
    }

    private void sizes() {
        for (TreePath place : source.places(MethodTree.class)) {
            MethodTree method = (MethodTree) place.getLeaf();
            String name = method.getName().toString();
            check.holds("rule 11, some sixty lines: " + name, source.lines(method) <= MOST_LINES);
            check.holds("rule 11, seven parameters: " + name, method.getParameters().size() <= MOST_PARAMETERS);
        }
    }

    /** README.md says it: no call makes an object, so that a run has room for as many calls as it likes. */
    private void newObjects() {
        for (Class<? extends Tree> kind : List.of(NewClassTree.class, NewArrayTree.class)) {
            for (TreePath place : source.places(kind)) {
                MethodTree around = Source.method(place);
                holds(12, "made with its object", place, around == null || Source.isConstructor(around));
            }
        }
        for (TreePath place : source.places(NewClassTree.class)) {
            NewClassTree made = (NewClassTree) place.getLeaf();
            holds(2, "no anonymous class", place, made.getClassBody() == null);
        }
    }

    /** What a constructor hands on to others is no part of the object that it makes, and the object itself neither. */
    private void constructors() {
        for (TreePath place : source.places(ExpressionTree.class)) {
            MethodTree around = Source.method(place);
            boolean making = around == null || Source.isConstructor(around);
            if (making && place.getLeaf() instanceof NewClassTree made) {
                handsOutNothing(place, made.getArguments());
            }
            if (making && place.getLeaf() instanceof MethodInvocationTree call) {
                Element called = source.element(place);
                holds(12, "no method of an object", place, called.getKind() == ElementKind.CONSTRUCTOR
                    || called.getModifiers().contains(Modifier.STATIC));
                handsOutNothing(place, call.getArguments());
            }
        }
    }

    private void handsOutNothing(TreePath place, List<? extends ExpressionTree> arguments) {
        for (ExpressionTree argument : arguments) {
            TreePath at = new TreePath(place, argument);
            boolean field = source.element(at) != null && source.element(at).getKind() == ElementKind.FIELD;
            boolean part = field && !isNumber(source.type(at));
            holds(12, "nothing of the object is handed out", place, !part && !Source.isThis(argument));
        }
    }
}
