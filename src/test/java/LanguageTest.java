import com.sun.source.tree.BinaryTree;
import com.sun.source.tree.BlockTree;
import com.sun.source.tree.ClassTree;
import com.sun.source.tree.DoWhileLoopTree;
import com.sun.source.tree.ExpressionTree;
import com.sun.source.tree.ForLoopTree;
import com.sun.source.tree.LiteralTree;
import com.sun.source.tree.MethodInvocationTree;
import com.sun.source.tree.MethodTree;
import com.sun.source.tree.NewClassTree;
import com.sun.source.tree.ParenthesizedTree;
import com.sun.source.tree.ThrowTree;
import com.sun.source.tree.Tree.Kind;
import com.sun.source.tree.TryTree;
import com.sun.source.tree.VariableTree;
import com.sun.source.tree.WhileLoopTree;
import com.sun.source.util.TreePathScanner;
import java.io.IOException;
import java.util.EnumSet;
import java.util.Set;
import javax.lang.model.element.Element;
import javax.lang.model.element.ElementKind;
import javax.lang.model.element.Modifier;
import javax.lang.model.type.ArrayType;
import javax.lang.model.type.TypeKind;
import javax.lang.model.type.TypeMirror;

/** The rules of LANGUAGE.md that can be seen in the program's file; FaceTest has those on its members. */
public final class LanguageTest extends TreePathScanner<Void, Void> {
    private static final String STRING = "java.lang.String";
    private static final Set<Kind> RULED_OUT =
            EnumSet.of(Kind.LAMBDA_EXPRESSION, Kind.MEMBER_REFERENCE, Kind.SYNCHRONIZED, Kind.ASSERT);
    // Of what rule 4 lists only what the program uses stands here.
    private static final Set<String> LIBRARY = Set.of(STRING + ".length", STRING + ".charAt",
            "java.lang.Math.abs", "java.lang.Math.max", "java.lang.Math.min");
    private static final Set<String> EXCEPTIONS = Set.of("java.lang.IllegalStateException",
            "java.lang.IllegalArgumentException", "java.lang.IndexOutOfBoundsException");
    // The document's limit of 3 keeps these low, and readPart refuses what would go deeper.
    private static final Set<String> RECURSIVE =
            Set.of("readShield", "readField", "readPart", "tinctureAt", "fieldAt");

    private final Source source;
    private final Calls calls = new Calls();
    private String method = "";
    private int classes = 0;

    private LanguageTest(Source source) {
        this.source = source;
    }

    public static void main(String[] args) throws IOException {
        Source source = Source.ofProgram();
        LanguageTest test = new LanguageTest(source);
        test.scan(source.unit, null);
        Due.due("rule 8: methods that call one another", test.calls.recursive(), RECURSIVE);
        int depth = test.calls.greatestDepth();
        Due.due("rule 11: calls eight deep at most, not " + depth, depth <= 8, true);
        Due.due("rule 11: twelve classes at most", test.classes <= 12, true);
        Due.end();
    }

    private void due(String rule, com.sun.source.tree.Tree part, boolean holds) {
        Due.due("rule " + rule + ", line " + source.firstLine(part), holds, true);
    }

    private String typeName(com.sun.source.tree.Tree part) {
        return String.valueOf(source.type(getCurrentPath(), part));
    }

    @Override
    public Void scan(com.sun.source.tree.Tree part, Void nothing) {
        if (part != null) {
            due("2 and 6: no " + part.getKind(), part, !RULED_OUT.contains(part.getKind()));
        }
        return super.scan(part, nothing);
    }

    @Override
    public Void visitClass(ClassTree type, Void nothing) {
        classes++;
        Element element = source.element(getCurrentPath());
        Kind around = getCurrentPath().getParentPath().getLeaf().getKind();
        boolean isOutermost = around == Kind.COMPILATION_UNIT;
        due("2: no local class", type, isOutermost || element.getEnclosingElement().getKind().isClass());
        due("1: classes inside are static", type, isOutermost || element.getModifiers().contains(Modifier.STATIC));
        return super.visitClass(type, nothing);
    }

    @Override
    public Void visitMethod(MethodTree declared, Void nothing) {
        due("11: seven parameters at most", declared, declared.getParameters().size() <= 7);
        due("11: some sixty lines at most", declared, source.lines(declared) <= 60);
        method = name(source.element(getCurrentPath()));
        super.visitMethod(declared, nothing);
        method = "";
        return null;
    }

    @Override
    public Void visitBlock(BlockTree block, Void nothing) {
        due("5: no static initialiser", block, !block.isStatic());
        return super.visitBlock(block, nothing);
    }

    @Override
    public Void visitMethodInvocation(MethodInvocationTree call, Void nothing) {
        Element called = source.element(getCurrentPath());
        // The compiler adds the super() of constructors that write none.
        if (called.getKind() != ElementKind.CONSTRUCTOR && !Source.isOwn(called)) {
            due("4: " + fullName(called), call, LIBRARY.contains(fullName(called)));
        }
        calls.add(method, name(called));
        return super.visitMethodInvocation(call, nothing);
    }

    @Override
    public Void visitNewClass(NewClassTree made, Void nothing) {
        Element constructor = source.element(getCurrentPath());
        boolean isThrown = getCurrentPath().getParentPath().getLeaf().getKind() == Kind.THROW;
        due("4: objects of own classes", made, isThrown || Source.isOwn(constructor));
        calls.add(method, name(constructor));
        return super.visitNewClass(made, nothing);
    }

    @Override
    public Void visitThrow(ThrowTree thrown, Void nothing) {
        due("6: no throw in a constructor", thrown, !method.startsWith("new "));
        due("6: exceptions that the document names", thrown, EXCEPTIONS.contains(typeName(thrown.getExpression())));
        boolean isNew = thrown.getExpression() instanceof NewClassTree made
                && made.getArguments().stream().allMatch(text -> text.getKind() == Kind.STRING_LITERAL);
        due("6: throw new E() or with a written text", thrown, isNew);
        return super.visitThrow(thrown, nothing);
    }

    @Override
    public Void visitTry(TryTree tried, Void nothing) {
        due("6: no finally", tried, tried.getFinallyBlock() == null);
        due("6: no resources", tried, tried.getResources().isEmpty());
        return super.visitTry(tried, nothing);
    }

    @Override
    public Void visitBinary(BinaryTree binary, Void nothing) {
        boolean hasText = typeName(binary.getLeftOperand()).equals(STRING)
                || typeName(binary.getRightOperand()).equals(STRING);
        due("6 and 10: no + or == of texts", binary, !hasText);
        return super.visitBinary(binary, nothing);
    }

    @Override
    public Void visitVariable(VariableTree variable, Void nothing) {
        Element element = source.element(getCurrentPath());
        due("3: " + element.asType(), variable, isAllowed(element.asType()));
        if (element.getKind() == ElementKind.FIELD) {
            field(variable, element);
        }
        return super.visitVariable(variable, nothing);
    }

    private void field(VariableTree variable, Element field) {
        TypeMirror type = field.asType();
        boolean isSimple = type.getKind().isPrimitive() || type.toString().equals(STRING);
        if (field.getEnclosingElement().getKind() == ElementKind.ENUM) {
            due("2: an enum's fields", variable, isSimple);
        }
        if (field.getModifiers().contains(Modifier.STATIC)) {
            boolean isValues = type.toString().equals("ToldShields.Word[]")
                    && variable.getInitializer().toString().equals("Word.values()");
            due("5: static fields are final", variable, field.getModifiers().contains(Modifier.FINAL));
            due("5: static fields are constants", variable, isSimple || isValues);
        }
    }

    /** Rows of numbers and of own classes, and no library class but String. */
    private static boolean isAllowed(TypeMirror type) {
        if (type instanceof ArrayType row) {
            TypeMirror element = row.getComponentType();
            return element.getKind() != TypeKind.ARRAY && isAllowed(element);
        }
        return type.getKind().isPrimitive() || type.toString().equals(STRING)
                || type.toString().startsWith("ToldShields.");
    }

    @Override
    public Void visitLiteral(LiteralTree literal, Void nothing) {
        String text = String.valueOf(literal.getValue());
        due("3: characters 0 to 255", literal, text.chars().allMatch(c -> c <= 255));
        return super.visitLiteral(literal, nothing);
    }

    @Override
    public Void visitForLoop(ForLoopTree loop, Void nothing) {
        due("9: a loop has an end", loop, canFail(loop.getCondition()));
        return super.visitForLoop(loop, nothing);
    }

    @Override
    public Void visitWhileLoop(WhileLoopTree loop, Void nothing) {
        due("9: a loop has an end", loop, canFail(loop.getCondition()));
        return super.visitWhileLoop(loop, nothing);
    }

    @Override
    public Void visitDoWhileLoop(DoWhileLoopTree loop, Void nothing) {
        due("9: a loop has an end", loop, canFail(loop.getCondition()));
        return super.visitDoWhileLoop(loop, nothing);
    }

    private static boolean canFail(ExpressionTree condition) {
        if (condition instanceof ParenthesizedTree inner) {
            return canFail(inner.getExpression());
        }
        return condition != null && condition.getKind() != Kind.BOOLEAN_LITERAL;
    }

    private static String name(Element element) {
        boolean isConstructor = element.getKind() == ElementKind.CONSTRUCTOR;
        return isConstructor ? "new " + element : element.getSimpleName().toString();
    }

    private static String fullName(Element element) {
        return element.getEnclosingElement() + "." + element.getSimpleName();
    }
}
