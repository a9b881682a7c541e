import com.sun.source.tree.ArrayAccessTree;
import com.sun.source.tree.ArrayTypeTree;
import com.sun.source.tree.AssignmentTree;
import com.sun.source.tree.BinaryTree;
import com.sun.source.tree.BlockTree;
import com.sun.source.tree.ClassTree;
import com.sun.source.tree.CompilationUnitTree;
import com.sun.source.tree.CompoundAssignmentTree;
import com.sun.source.tree.ConditionalExpressionTree;
import com.sun.source.tree.ExpressionTree;
import com.sun.source.tree.ForLoopTree;
import com.sun.source.tree.IdentifierTree;
import com.sun.source.tree.ImportTree;
import com.sun.source.tree.LiteralTree;
import com.sun.source.tree.MethodInvocationTree;
import com.sun.source.tree.MethodTree;
import com.sun.source.tree.NewArrayTree;
import com.sun.source.tree.NewClassTree;
import com.sun.source.tree.Tree;
import com.sun.source.tree.Tree.Kind;
import com.sun.source.tree.TypeCastTree;
import com.sun.source.tree.UnaryTree;
import com.sun.source.tree.VariableTree;
import com.sun.source.util.TreePath;
import java.io.IOException;
import java.lang.reflect.Constructor;
import java.lang.reflect.Field;
import java.lang.reflect.Method;
import java.lang.reflect.Modifier;
import java.nio.file.Files;
import java.nio.file.Path;
import java.util.ArrayList;
import java.util.Arrays;
import java.util.EnumSet;
import java.util.List;
import java.util.Set;
import java.util.TreeSet;
import javax.lang.model.element.ExecutableElement;

/**
 * LANGUAGE.md rule by rule, as far as the compiler's tree of the class and its members tell. Where a rule allows more
 * than the class uses (texts, lists, recursion, objects made by calls), the test asks for the narrower.
 */
public final class LanguageTests {
    private static final Path SOURCE = Path.of("src/main/java/MixElection.java");

    private static final List<String> FACE = List.of(
        "boolean secret(int, int)", "int key()", "int voter()", "long cast(int, int, int)",
        "long castPair(int, int, int)", "int close()", "boolean place(int, int, int)",
        "boolean forge(int, int, int)", "int mix()", "int shadow()", "int coin(int)", "int share(int)",
        "int tally()", "int count(int)", "int about(int)", "int list(int, int, int)", "int shadowOf(int, int)",
        "int shown(int, int)", "int given(int, int)", "long entry(int, int)", "long chain(int)");

    private static final Set<String> WHOLE_NUMBERS = Set.of("int", "long", "short", "byte", "char");
    private static final Set<String> CONSTANTS = Set.of("int", "long", "boolean", "char", "class java.lang.String");

    private final SourceTree source;

    private LanguageTests(SourceTree source) {
        this.source = source;
    }

    public static void main(String[] args) throws IOException {
        LanguageTests tests = new LanguageTests(new SourceTree(SOURCE));
        tests.rule1TheFileHoldsOneClass();
        rule1TheFaceIsTheDocuments();
        rule1NoOtherMethodBearsANameOfTheFace();
        tests.rule2ClassesInsideAreStaticAndNoneIsLocal();
        tests.rule3Types();
        rule3CharactersAreLatin();
        tests.rule4Library();
        rule5StaticFieldsAreConstants();
        tests.rule5NoInitialiserBlock();
        tests.rule6NoExceptionsAndCastsOfNumbersAlone();
        tests.rule6NumbersAloneAreCompared();
        tests.rule7ADivisorIsLookedAt();
        tests.rule7AnIndexIsLookedAt();
        tests.rule7NothingIsNull();
        tests.rule9EachLoopCountsTowardsABound();
        tests.rules8And11CallsGoAtMostEightDeep();
        tests.rule11MethodsAreShort();
        rule11ClassesAreSmall();
        tests.rule12ObjectsAreMadeByConstructors();
        tests.rule12NothingIsHandedOut();
        Due.end("LanguageTests");
    }

    private void rule1TheFileHoldsOneClass() {
        CompilationUnitTree unit = source.unit();
        Due.yes("rule 1: no package line", unit.getPackage() == null);
        Due.same("rule 1: classes that stand in no other", unit.getTypeDecls().size(), 1);
    }

    private static String signature(Method method) {
        List<String> types = new ArrayList<>();
        for (Class<?> type : method.getParameterTypes()) {
            types.add(type.getName());
        }
        return method.getReturnType().getName() + " " + method.getName() + "(" + String.join(", ", types) + ")";
    }

    private static void rule1TheFaceIsTheDocuments() {
        Set<String> found = new TreeSet<>();
        for (Method method : MixElection.class.getDeclaredMethods()) {
            if (!Modifier.isPrivate(method.getModifiers())) {
                found.add(signature(method));
                Due.same("rule 1: modifiers of " + method, method.getModifiers(), Modifier.PUBLIC);
            }
        }
        Due.yes("rule 1: the methods of the face: " + found, found.equals(new TreeSet<>(FACE)));
        Constructor<?>[] constructors = MixElection.class.getDeclaredConstructors();
        Due.same("rule 1: constructors", constructors.length, 1);
        Due.yes("rule 1: constructor", Arrays.equals(constructors[0].getParameterTypes(),
            new Class<?>[] {int.class, int.class, int.class, int.class}));
        Due.same("rule 1: modifiers of the constructor", constructors[0].getModifiers(), Modifier.PUBLIC);
        Due.same("rule 1: modifiers of the class", MixElection.class.getModifiers(), Modifier.PUBLIC | Modifier.FINAL);
        Due.yes("rule 1: it is no kind of another class", MixElection.class.getSuperclass() == Object.class
            && MixElection.class.getInterfaces().length == 0);
        Due.same("NONE", MixElection.NONE, -1);
        for (Field field : MixElection.class.getDeclaredFields()) {
            boolean isHidden = Modifier.isPrivate(field.getModifiers());
            Due.yes("rule 1: " + field + " is hidden", field.getName().equals("NONE") || isHidden);
        }
    }

    private static List<Class<?>> classes() {
        List<Class<?>> all = new ArrayList<>(List.of(MixElection.class.getDeclaredClasses()));
        all.add(MixElection.class);
        return all;
    }

    private static void rule1NoOtherMethodBearsANameOfTheFace() {
        Set<String> faceNames = new TreeSet<>();
        for (String signature : FACE) {
            faceNames.add(signature.substring(signature.indexOf(' ') + 1, signature.indexOf('(')));
        }
        for (Class<?> type : classes()) {
            for (Method method : type.getDeclaredMethods()) {
                boolean isFace = type == MixElection.class && Modifier.isPublic(method.getModifiers());
                Due.yes("rule 1: the name of " + method, isFace || !faceNames.contains(method.getName()));
            }
        }
    }

    private void rule2ClassesInsideAreStaticAndNoneIsLocal() {
        for (Class<?> type : MixElection.class.getDeclaredClasses()) {
            int modifiers = type.getModifiers();
            Due.yes("rule 2: " + type + " is static", Modifier.isStatic(modifiers));
            Due.no("rules 1, 2: " + type + " is seen from outside",
                Modifier.isPublic(modifiers) || Modifier.isProtected(modifiers));
            Due.same("rule 2: classes inside " + type, type.getDeclaredClasses().length, 0);
        }
        for (TreePath path : source.paths()) {
            if (path.getLeaf() instanceof ClassTree) {
                Tree around = path.getParentPath().getLeaf();
                Due.yes("rule 2: no local or anonymous class, " + source.line(path.getLeaf()),
                    around instanceof ClassTree || around instanceof CompilationUnitTree);
            }
        }
        none("rule 2", EnumSet.of(Kind.LAMBDA_EXPRESSION, Kind.MEMBER_REFERENCE));
    }

    private void none(String rule, Set<Kind> kinds) {
        for (TreePath path : source.paths()) {
            Tree tree = path.getLeaf();
            Due.no(rule + ": " + tree.getKind() + " at " + source.line(tree), kinds.contains(tree.getKind()));
        }
    }

    private Set<String> ownClasses() {
        Set<String> names = new TreeSet<>();
        for (ClassTree type : source.all(ClassTree.class)) {
            names.add(type.getSimpleName().toString());
        }
        return names;
    }

    private boolean isAllowed(Tree type, Set<String> own) {
        if (type instanceof ArrayTypeTree row) {
            Tree of = row.getType();
            return of instanceof ArrayTypeTree inner
                ? WHOLE_NUMBERS.contains(inner.getType().toString())
                : isAllowed(of, own);
        }
        String name = type.toString();
        return WHOLE_NUMBERS.contains(name) || name.equals("boolean") || own.contains(name);
    }

    private void rule3Types() {
        Set<String> own = ownClasses();
        for (VariableTree variable : source.all(VariableTree.class)) {
            Due.yes("rule 3: the type of " + source.line(variable), isAllowed(variable.getType(), own));
        }
        for (MethodTree method : source.all(MethodTree.class)) {
            Tree type = method.getReturnType();
            Due.yes("rule 3: the type of " + source.line(method),
                type == null || type.toString().equals("void") || isAllowed(type, own));
        }
        for (LiteralTree literal : source.all(LiteralTree.class)) {
            Due.yes("rule 3: the type of " + source.line(literal),
                literal.getValue() instanceof Integer || literal.getValue() instanceof Long
                    || literal.getValue() instanceof Boolean);
        }
    }

    private static void rule3CharactersAreLatin() throws IOException {
        String text = Files.readString(SOURCE);
        Due.yes("rule 3: characters of the file", text.chars().allMatch(c -> c < 128));
    }

    private void rule4Library() {
        for (ImportTree imported : source.all(ImportTree.class)) {
            String name = imported.getQualifiedIdentifier().toString();
            Due.yes("rule 4: import of " + name, name.equals("java.util.Arrays") && !imported.isStatic());
        }
        for (ExecutableElement called : source.libraryCalls()) {
            String name = called.getEnclosingElement() + "." + called.getSimpleName();
            // A constructor begins with a hidden call of Object's.
            Due.yes("rule 4: call of " + name,
                Set.of("java.lang.Math.max", "java.lang.Math.min", "java.util.Arrays.fill", "java.lang.Object.<init>")
                    .contains(name));
        }
    }

    private static void rule5StaticFieldsAreConstants() {
        for (Class<?> type : classes()) {
            for (Field field : type.getDeclaredFields()) {
                if (Modifier.isStatic(field.getModifiers())) {
                    Due.yes("rule 5: " + field + " is final", Modifier.isFinal(field.getModifiers()));
                    Due.yes("rule 5: the type of " + field, CONSTANTS.contains(field.getType().toString()));
                }
            }
        }
    }

    private void rule5NoInitialiserBlock() {
        for (ClassTree type : source.all(ClassTree.class)) {
            for (Tree member : type.getMembers()) {
                Due.no("rule 5: initialiser block of " + type.getSimpleName(), member instanceof BlockTree);
            }
        }
    }

    private void rule6NoExceptionsAndCastsOfNumbersAlone() {
        none("rule 6", EnumSet.of(Kind.THROW, Kind.TRY, Kind.CATCH, Kind.SYNCHRONIZED, Kind.ASSERT, Kind.INSTANCE_OF));
        for (MethodTree method : source.all(MethodTree.class)) {
            Due.no("rule 6: " + source.line(method),
                Set.of("equals", "hashCode", "toString").contains(method.getName().toString()));
            Due.yes("rule 6: it throws nothing, " + source.line(method), method.getThrows().isEmpty());
        }
        for (TypeCastTree cast : source.all(TypeCastTree.class)) {
            Due.yes("rule 6: " + source.line(cast), WHOLE_NUMBERS.contains(cast.getType().toString()));
        }
    }

    private void rule6NumbersAloneAreCompared() {
        for (TreePath path : source.paths()) {
            if (path.getLeaf() instanceof BinaryTree binary) {
                boolean ofPrimitives = source.typeOf(path, binary.getLeftOperand()).getKind().isPrimitive()
                    && source.typeOf(path, binary.getRightOperand()).getKind().isPrimitive();
                Due.yes("rules 6, 10: " + source.line(binary), ofPrimitives);
            }
        }
    }

    private void rule7ADivisorIsLookedAt() {
        for (TreePath path : source.paths()) {
            Tree tree = path.getLeaf();
            Due.no("rule 7: " + source.line(tree),
                tree.getKind() == Kind.DIVIDE_ASSIGNMENT || tree.getKind() == Kind.REMAINDER_ASSIGNMENT);
            if (tree.getKind() == Kind.DIVIDE || tree.getKind() == Kind.REMAINDER) {
                ExpressionTree divisor = ((BinaryTree) tree).getRightOperand();
                Due.yes("rule 7: the divisor of " + source.line(tree),
                    isAbove0(divisor) || isTestedAbove0(path, divisor) || isCountedUpFromAbove0(path, divisor));
            }
        }
    }

    private static boolean isAbove0(Tree tree) {
        return tree instanceof LiteralTree literal && literal.getValue() instanceof Integer number && number > 0;
    }

    /** In the first branch of 'divisor > 0 ? .. : ..'. */
    private static boolean isTestedAbove0(TreePath path, ExpressionTree divisor) {
        for (TreePath p = path; p.getParentPath() != null; p = p.getParentPath()) {
            if (p.getParentPath().getLeaf() instanceof ConditionalExpressionTree choice
                    && choice.getTrueExpression() == p.getLeaf()
                    && choice.getCondition().toString().equals(divisor + " > 0")) {
                return true;
            }
        }
        return false;
    }

    private static boolean isCountedUpFromAbove0(TreePath path, ExpressionTree divisor) {
        for (TreePath p = path; p != null; p = p.getParentPath()) {
            if (p.getLeaf() instanceof ForLoopTree loop && loop.getInitializer().size() == 1
                    && loop.getInitializer().get(0) instanceof VariableTree counter
                    && counter.getName().contentEquals(divisor.toString()) && isAbove0(counter.getInitializer())) {
                return loop.getUpdate().size() == 1
                    && loop.getUpdate().get(0).getExpression().getKind() == Kind.PLUS_ASSIGNMENT;
            }
        }
        return false;
    }

    /** In the same method, by a comparison of it with a bound, or by an own test of it that does so. */
    private void rule7AnIndexIsLookedAt() {
        for (TreePath path : source.paths()) {
            if (path.getLeaf() instanceof ArrayAccessTree access && !(access.getIndex() instanceof LiteralTree)) {
                String index = access.getIndex().toString();
                Due.yes("rule 7: the index of " + source.line(access),
                    isLookedAt(index, SourceTree.memberAround(path)));
            }
        }
    }

    private boolean isLookedAt(String index, Tree member) {
        Set<Kind> bounds = EnumSet.of(Kind.LESS_THAN, Kind.LESS_THAN_EQUAL, Kind.GREATER_THAN_EQUAL);
        for (TreePath path : source.paths()) {
            if (SourceTree.memberAround(path) != member) {
                continue;
            }
            if (path.getLeaf() instanceof BinaryTree test && bounds.contains(test.getKind())
                    && test.getLeftOperand().toString().equals(index)) {
                return true;
            }
            if (path.getLeaf() instanceof MethodInvocationTree call && call.getArguments().size() == 1
                    && Set.of("isTrustee", "mayGive", "gave", "has").contains(call.getMethodSelect().toString())
                    && call.getArguments().get(0).toString().equals(index)) {
                return true;
            }
        }
        return false;
    }

    private void rule7NothingIsNull() {
        none("rule 7", EnumSet.of(Kind.NULL_LITERAL));
        for (ClassTree type : source.all(ClassTree.class)) {
            for (Tree member : type.getMembers()) {
                if (member instanceof VariableTree field && !isNumberOrBoolean(field.getType())) {
                    Due.yes("rule 7: a reference that is set once, by the constructor: " + source.line(field),
                        field.getModifiers().getFlags().contains(javax.lang.model.element.Modifier.FINAL));
                }
            }
        }
    }

    private static boolean isNumberOrBoolean(Tree type) {
        return WHOLE_NUMBERS.contains(type.toString()) || type.toString().equals("boolean");
    }

    private void rule9EachLoopCountsTowardsABound() {
        none("rule 9", EnumSet.of(Kind.WHILE_LOOP, Kind.DO_WHILE_LOOP));
        for (TreePath path : source.paths()) {
            if (path.getLeaf() instanceof ForLoopTree loop) {
                Due.yes("rule 9: one counter, a bound and a step, " + source.line(loop),
                    loop.getInitializer().size() == 1 && loop.getInitializer().get(0) instanceof VariableTree
                        && loop.getCondition() != null && loop.getUpdate().size() == 1);
                String counter = ((VariableTree) loop.getInitializer().get(0)).getName().toString();
                Due.yes("rule 9: the bound is on the counter, " + source.line(loop),
                    loop.getCondition() instanceof BinaryTree test && test.getLeftOperand().toString().equals(counter));
                Due.same("rule 9: the step alone moves the counter, " + source.line(loop),
                    changesOf(counter, loop), 1);
                Due.same("rule 9: the step moves the counter, " + source.line(loop),
                    changesOf(counter, loop.getUpdate().get(0)), 1);
            }
        }
    }

    private int changesOf(String name, Tree around) {
        int changes = 0;
        for (TreePath path : source.paths()) {
            if (name.equals(changedBy(path.getLeaf())) && isInside(path, around)) {
                changes++;
            }
        }
        return changes;
    }

    private static boolean isInside(TreePath path, Tree around) {
        for (TreePath p = path; p != null; p = p.getParentPath()) {
            if (p.getLeaf() == around) {
                return true;
            }
        }
        return false;
    }

    private static String changedBy(Tree tree) {
        if (tree instanceof AssignmentTree set) {
            return set.getVariable().toString();
        }
        if (tree instanceof CompoundAssignmentTree set) {
            return set.getVariable().toString();
        }
        Set<Kind> steps = EnumSet.of(Kind.POSTFIX_INCREMENT, Kind.POSTFIX_DECREMENT, Kind.PREFIX_INCREMENT,
            Kind.PREFIX_DECREMENT);
        return tree instanceof UnaryTree step && steps.contains(tree.getKind()) ? step.getExpression().toString() : "";
    }

    private void rules8And11CallsGoAtMostEightDeep() {
        int depth = source.callDepth();
        Due.yes("rule 8: no method calls itself", depth > 0);
        Due.yes("rule 11: calls that stand open at once: " + depth, depth <= 8);
    }

    private void rule11MethodsAreShort() {
        for (MethodTree method : source.all(MethodTree.class)) {
            Due.yes("rule 11: at most seven parameters, " + source.line(method), method.getParameters().size() <= 7);
            Due.yes("rule 11: at most sixty lines, " + source.line(method), source.linesOf(method) <= 60);
        }
    }

    private static void rule11ClassesAreSmall() {
        Due.yes("rule 11: at most twelve classes", classes().size() <= 12);
        for (Class<?> type : classes()) {
            long fields = Arrays.stream(type.getDeclaredFields())
                .filter(field -> !Modifier.isStatic(field.getModifiers())).count();
            Due.yes("rule 11: at most twenty fields in " + type, fields <= 20);
        }
    }

    private void rule12ObjectsAreMadeByConstructors() {
        for (TreePath path : source.paths()) {
            Tree tree = path.getLeaf();
            if (tree instanceof NewClassTree || tree instanceof NewArrayTree) {
                Due.yes("rule 12: made by a constructor, " + source.line(tree),
                    SourceTree.memberAround(path) instanceof MethodTree member && member.getReturnType() == null);
            }
        }
    }

    private void rule12NothingIsHandedOut() {
        for (Class<?> type : classes()) {
            Due.yes("rule 12: no other class can override a method of " + type, Modifier.isFinal(type.getModifiers()));
        }
        for (TreePath path : source.paths()) {
            Tree around = path.getParentPath().getLeaf();
            boolean isThis = path.getLeaf() instanceof IdentifierTree name && name.getName().contentEquals("this");
            Due.no("rule 12: an object hands itself out, " + source.line(around),
                isThis && (around instanceof MethodInvocationTree || around instanceof NewClassTree
                    || around.getKind() == Kind.RETURN || around.getKind() == Kind.ASSIGNMENT));
        }
    }
}
