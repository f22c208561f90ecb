import com.sun.source.tree.ArrayAccessTree;
import com.sun.source.tree.AssertTree;
import com.sun.source.tree.AssignmentTree;
import com.sun.source.tree.BinaryTree;
import com.sun.source.tree.BlockTree;
import com.sun.source.tree.ClassTree;
import com.sun.source.tree.CompilationUnitTree;
import com.sun.source.tree.CompoundAssignmentTree;
import com.sun.source.tree.DoWhileLoopTree;
import com.sun.source.tree.EnhancedForLoopTree;
import com.sun.source.tree.ExpressionTree;
import com.sun.source.tree.ForLoopTree;
import com.sun.source.tree.IdentifierTree;
import com.sun.source.tree.LambdaExpressionTree;
import com.sun.source.tree.LiteralTree;
import com.sun.source.tree.MemberReferenceTree;
import com.sun.source.tree.MemberSelectTree;
import com.sun.source.tree.MethodInvocationTree;
import com.sun.source.tree.MethodTree;
import com.sun.source.tree.NewArrayTree;
import com.sun.source.tree.NewClassTree;
import com.sun.source.tree.ParenthesizedTree;
import com.sun.source.tree.StatementTree;
import com.sun.source.tree.SwitchTree;
import com.sun.source.tree.SynchronizedTree;
import com.sun.source.tree.ThrowTree;
import com.sun.source.tree.Tree;
import com.sun.source.tree.TryTree;
import com.sun.source.tree.TypeCastTree;
import com.sun.source.tree.UnaryTree;
import com.sun.source.tree.VariableTree;
import com.sun.source.tree.WhileLoopTree;
import com.sun.source.util.JavacTask;
import com.sun.source.util.SourcePositions;
import com.sun.source.util.TreePath;
import com.sun.source.util.TreePathScanner;
import com.sun.source.util.TreeScanner;
import com.sun.source.util.Trees;
import java.io.IOException;
import java.lang.reflect.Array;
import java.lang.reflect.Field;
import java.nio.file.Files;
import java.nio.file.Path;
import java.nio.file.Paths;
import java.util.ArrayList;
import java.util.HashMap;
import java.util.HashSet;
import java.util.IdentityHashMap;
import java.util.List;
import java.util.Map;
import java.util.Set;
import java.util.TreeSet;
import java.util.stream.Stream;
import javax.lang.model.element.Element;
import javax.lang.model.element.ElementKind;
import javax.lang.model.element.ExecutableElement;
import javax.lang.model.element.Modifier;
import javax.lang.model.element.TypeElement;
import javax.lang.model.type.ArrayType;
import javax.lang.model.type.DeclaredType;
import javax.lang.model.type.TypeKind;
import javax.lang.model.type.TypeMirror;
import javax.tools.JavaCompiler;
import javax.tools.StandardJavaFileManager;
import javax.tools.ToolProvider;

/**
 * The file keeps to ../shared/LANGUAGE.md, rule by rule, as the compiler reads it. Where the file needs less than a rule
 * leaves, the test asks for that less: no doubles, no lists, no recursion, no objects made by a call.
 */
public final class LanguageTest {
  private static final Path FOLDER = Paths.get("src/main/java");
  private static final Path SOURCE = FOLDER.resolve("GravelHasTheLastWord.java");
  private static final Set<String> LIBRARY = Set.of(
      "String.length", "String.charAt", "Integer.bitCount", "Math.max", "Math.min", "Math.abs", "System.arraycopy");
  private static final Set<TypeKind> NUMBERS =
      Set.of(TypeKind.INT, TypeKind.LONG, TypeKind.SHORT, TypeKind.BYTE, TypeKind.CHAR);
  private static final Set<Tree.Kind> BOUNDS = Set.of(
      Tree.Kind.LESS_THAN, Tree.Kind.LESS_THAN_EQUAL, Tree.Kind.GREATER_THAN, Tree.Kind.GREATER_THAN_EQUAL);
  private static final int MOST_PARAMETERS = 7;
  private static final int MOST_LINES = 60;
  private static final int MOST_DEEP = 8;
  private static final int MOST_CLASSES = 12;
  private static final int MOST_FIELDS = 20;

  private static int wrong = 0;

  private final CompilationUnitTree unit;
  private final Trees trees;
  private final Set<String> faceNames = new TreeSet<>();
  private final Map<Element, Set<Element>> callsOf = new HashMap<>();

  private LanguageTest(CompilationUnitTree unit, Trees trees) {
    this.unit = unit;
    this.trees = trees;
  }

  private static void need(int rule, boolean isSo, String what) {
    if (!isSo) {
      wrong++;
      System.out.println("rule " + rule + ": " + what);
    }
  }

  private void need(int rule, boolean isSo, String what, Tree at) {
    long line = unit.getLineMap().getLineNumber(trees.getSourcePositions().getStartPosition(unit, at));
    need(rule, isSo, "line " + line + ": " + what);
  }

  private static boolean isOwn(Element e) {
    Element outer = e;
    while (outer.getEnclosingElement() != null && outer.getEnclosingElement().getKind() != ElementKind.PACKAGE) {
      outer = outer.getEnclosingElement();
    }
    return outer.getSimpleName().contentEquals("GravelHasTheLastWord");
  }

  private static boolean is(Element e, Modifier modifier) {
    return e.getModifiers().contains(modifier);
  }

  private static boolean isOf(TypeMirror type, String name) {
    return type.getKind() == TypeKind.DECLARED
        && ((TypeElement) ((DeclaredType) type).asElement()).getQualifiedName().contentEquals(name);
  }

  private static boolean isNumberOrSo(TypeMirror type) {
    return NUMBERS.contains(type.getKind()) || type.getKind() == TypeKind.BOOLEAN;
  }

  /** Rule 3, less doubles, arrays of two dimensions, builders, boxes and lists, which the file doesn't need. */
  private static boolean mayBe(TypeMirror type) {
    if (type.getKind() == TypeKind.ARRAY) {
      return isNumberOrSo(((ArrayType) type).getComponentType());
    }
    boolean isOwnClass = type.getKind() == TypeKind.DECLARED && isOwn(((DeclaredType) type).asElement());
    return isNumberOrSo(type) || isOwnClass || isOf(type, "java.lang.String");
  }

  // ---- one file, one class

  private static void oneFile() throws IOException {
    try (Stream<Path> files = Files.walk(FOLDER)) {
      need(1, files.filter(Files::isRegularFile).count() == 1, "there is more than the one file");
    }
    for (String line : Files.readAllLines(SOURCE)) {
      need(3, line.chars().allMatch(sign -> sign < 128), "an odd sign: " + line);
    }
  }

  private void oneClass() {
    need(1, unit.getPackageName() == null, "a package line");
    need(4, unit.getImports().isEmpty(), "an import");
    need(1, unit.getTypeDecls().size() == 1, "more than one class on top");
    for (Tree t : ((ClassTree) unit.getTypeDecls().get(0)).getMembers()) {
      Element e = trees.getElement(trees.getPath(unit, t));
      if (e != null && e.getKind() == ElementKind.METHOD && is(e, Modifier.PUBLIC)) {
        faceNames.add(e.getSimpleName().toString());
      }
    }
  }

  // ---- what stands in the file

  private final class Reader extends TreePathScanner<Void, Element> {
    private int classes = 0;

    private Element elementOf(Tree t) {
      return trees.getElement(new TreePath(getCurrentPath(), t));
    }

    private TypeMirror typeOf(Tree t) {
      return trees.getTypeMirror(new TreePath(getCurrentPath(), t));
    }

    @Override public Void visitClass(ClassTree t, Element method) {
      classes++;
      need(11, classes <= MOST_CLASSES, "too many classes", t);
      need(2, method == null && t.getSimpleName().length() > 0, "a class inside a method, or without a name", t);
      need(2, t.getKind() == Tree.Kind.CLASS && t.getTypeParameters().isEmpty(), "another kind of class", t);
      Element e = trees.getElement(getCurrentPath());
      boolean isInside = getCurrentPath().getParentPath().getLeaf() instanceof ClassTree;
      need(2, is(e, Modifier.STATIC) == isInside, "not static", t);
      need(12, is(e, Modifier.FINAL), "a class that another could be of", t);
      need(1, !isInside || !is(e, Modifier.PUBLIC), "a public class inside", t);
      need(2, t.getExtendsClause() == null && t.getImplementsClause().isEmpty(), "of another class", t);
      int fields = 0;
      for (Tree member : t.getMembers()) {
        boolean isField = member instanceof VariableTree;
        fields += isField && !is(elementOf(member), Modifier.STATIC) ? 1 : 0;
        need(5, !(member instanceof BlockTree), "a block on its own", member);
      }
      need(11, fields <= MOST_FIELDS, fields + " fields", t);
      return super.visitClass(t, method);
    }

    @Override public Void visitVariable(VariableTree t, Element method) {
      Element e = trees.getElement(getCurrentPath());
      TypeMirror type = e.asType();
      need(3, mayBe(type), "the type of " + t.getName(), t);
      if (e.getKind() == ElementKind.FIELD && is(e, Modifier.STATIC)) {
        boolean isRow = type.getKind() == TypeKind.ARRAY;
        boolean isPlain = Set.of(TypeKind.INT, TypeKind.LONG, TypeKind.BOOLEAN, TypeKind.CHAR).contains(type.getKind());
        boolean isTold = isRow && NUMBERS.contains(((ArrayType) type).getComponentType().getKind())
            && t.getInitializer() instanceof NewArrayTree && ((NewArrayTree) t.getInitializer()).getDimensions().isEmpty();
        need(5, is(e, Modifier.FINAL), "static, not final: " + t.getName(), t);
        need(5, isPlain || isTold || isOf(type, "java.lang.String"), "static: " + t.getName(), t);
      }
      return super.visitVariable(t, method);
    }

    @Override public Void visitMethod(MethodTree t, Element method) {
      Element e = trees.getElement(getCurrentPath());
      boolean isOnTop = e.getEnclosingElement().getEnclosingElement().getKind() == ElementKind.PACKAGE;
      boolean isPrivate = is(e, Modifier.PRIVATE);
      need(1, !isOnTop || isPrivate || is(e, Modifier.PUBLIC), "neither public nor private: " + t.getName(), t);
      need(1, !isPrivate || !faceNames.contains(t.getName().toString()), "private, by a public name: " + t.getName(), t);
      need(6, t.getThrows().isEmpty(), "it tells that it throws", t);
      need(6, !Set.of("equals", "hashCode", "toString").contains(t.getName().toString()), "an own " + t.getName(), t);
      need(11, t.getParameters().size() <= MOST_PARAMETERS, "too many parameters", t);
      SourcePositions places = trees.getSourcePositions();
      long first = unit.getLineMap().getLineNumber(places.getStartPosition(unit, t));
      long last = unit.getLineMap().getLineNumber(places.getEndPosition(unit, t));
      need(11, places.getEndPosition(unit, t) < 0 || last - first < MOST_LINES, "too long: " + t.getName(), t);
      TypeMirror back = ((ExecutableElement) e).getReturnType();
      need(3, back.getKind() == TypeKind.VOID || mayBe(back), "what it answers", t);
      callsOf.putIfAbsent(e, new HashSet<>());
      return super.visitMethod(t, e);
    }

    @Override public Void visitMethodInvocation(MethodInvocationTree t, Element method) {
      Element called = elementOf(t.getMethodSelect());
      String name = called.getEnclosingElement().getSimpleName() + "." + called.getSimpleName();
      // A constructor's call of the one above it is written by nobody.
      boolean isUnwritten = name.equals("Object.<init>");
      need(4, isOwn(called) || isUnwritten || LIBRARY.contains(name), "not of what is left of the library: " + name, t);
      if (method != null && isOwn(called)) {
        callsOf.get(method).add(called);
      }
      return super.visitMethodInvocation(t, method);
    }

    @Override public Void visitMemberSelect(MemberSelectTree t, Element method) {
      Element e = trees.getElement(getCurrentPath());
      boolean isLength = t.getIdentifier().contentEquals("length");
      boolean isField = e != null && e.getKind() == ElementKind.FIELD;
      need(4, !isField || isLength || isOwn(e), "a field of the library: " + t, t);
      return super.visitMemberSelect(t, method);
    }

    @Override public Void visitLiteral(LiteralTree t, Element method) {
      Object value = t.getValue();
      boolean isText = value instanceof String;
      need(4, !isText || ((String) value).chars().allMatch(sign -> sign >= 1 && sign <= 127), "a text's sign", t);
      need(3, !(value instanceof Double) && !(value instanceof Float), "a double", t);
      return super.visitLiteral(t, method);
    }

    @Override public Void visitNewClass(NewClassTree t, Element method) {
      need(2, t.getClassBody() == null, "a class without a name", t);
      need(4, isOwn(elementOf(t.getIdentifier())), "an object of the library", t);
      need(12, method == null || method.getKind() == ElementKind.CONSTRUCTOR, "a call makes an object", t);
      return super.visitNewClass(t, method);
    }

    @Override public Void visitNewArray(NewArrayTree t, Element method) {
      need(12, method == null || method.getKind() == ElementKind.CONSTRUCTOR, "a call makes an array", t);
      return super.visitNewArray(t, method);
    }

    @Override public Void visitBinary(BinaryTree t, Element method) {
      boolean isJoined = t.getKind() == Tree.Kind.PLUS && isOf(typeOf(t.getLeftOperand()), "java.lang.String");
      boolean isTurned = t.getKind() == Tree.Kind.PLUS && isOf(typeOf(t.getRightOperand()), "java.lang.String");
      need(10, !isJoined && !isTurned, "texts joined by +", t);
      boolean isSame = t.getKind() == Tree.Kind.EQUAL_TO || t.getKind() == Tree.Kind.NOT_EQUAL_TO;
      need(6, !isSame || isNumberOrSo(typeOf(t.getLeftOperand())), "== of what is no number", t);
      return super.visitBinary(t, method);
    }

    @Override public Void visitTypeCast(TypeCastTree t, Element method) {
      need(6, isNumberOrSo(typeOf(t.getType())) && isNumberOrSo(typeOf(t.getExpression())), "a cast of an object", t);
      return super.visitTypeCast(t, method);
    }

    @Override public Void visitSwitch(SwitchTree t, Element method) {
      need(10, NUMBERS.contains(typeOf(t.getExpression()).getKind()), "a switch on another thing", t);
      return super.visitSwitch(t, method);
    }

    private void changes(ExpressionTree what) {
      Tree at = what;
      while (at instanceof ArrayAccessTree) {
        at = ((ArrayAccessTree) at).getExpression();
      }
      Element e = trees.getElement(trees.getPath(unit, at));
      boolean isField = e != null && e.getKind() == ElementKind.FIELD;
      need(5, !isField || !is(e, Modifier.STATIC), "what is static is changed", what);
    }

    @Override public Void visitAssignment(AssignmentTree t, Element method) {
      changes(t.getVariable());
      return super.visitAssignment(t, method);
    }

    @Override public Void visitCompoundAssignment(CompoundAssignmentTree t, Element method) {
      changes(t.getVariable());
      need(10, !isOf(typeOf(t.getVariable()), "java.lang.String"), "texts joined by +=", t);
      return super.visitCompoundAssignment(t, method);
    }

    @Override public Void visitUnary(UnaryTree t, Element method) {
      if (changedBy(t) != null) {
        changes(t.getExpression());
      }
      return super.visitUnary(t, method);
    }

    // What can't stand anywhere.

    @Override public Void visitThrow(ThrowTree t, Element method) {
      need(6, false, "throw", t);
      return super.visitThrow(t, method);
    }

    @Override public Void visitTry(TryTree t, Element method) {
      need(6, false, "try", t);
      return super.visitTry(t, method);
    }

    @Override public Void visitSynchronized(SynchronizedTree t, Element method) {
      need(6, false, "synchronized", t);
      return super.visitSynchronized(t, method);
    }

    @Override public Void visitAssert(AssertTree t, Element method) {
      need(6, false, "assert", t);
      return super.visitAssert(t, method);
    }

    @Override public Void visitLambdaExpression(LambdaExpressionTree t, Element method) {
      need(2, false, "a lambda", t);
      return super.visitLambdaExpression(t, method);
    }

    @Override public Void visitMemberReference(MemberReferenceTree t, Element method) {
      need(2, false, "a method reference", t);
      return super.visitMemberReference(t, method);
    }

    // Loops: something in the condition is held against a bound, and the loop changes it.

    @Override public Void visitForLoop(ForLoopTree t, Element method) {
      List<Tree> changing = new ArrayList<>(t.getUpdate());
      changing.add(t.getStatement());
      endsBy(t, t.getCondition(), changing);
      return super.visitForLoop(t, method);
    }

    @Override public Void visitWhileLoop(WhileLoopTree t, Element method) {
      endsBy(t, t.getCondition(), List.of(t.getStatement()));
      return super.visitWhileLoop(t, method);
    }

    @Override public Void visitDoWhileLoop(DoWhileLoopTree t, Element method) {
      endsBy(t, t.getCondition(), List.of(t.getStatement()));
      return super.visitDoWhileLoop(t, method);
    }

    @Override public Void visitEnhancedForLoop(EnhancedForLoopTree t, Element method) {
      need(9, typeOf(t.getExpression()).getKind() == TypeKind.ARRAY, "for over another thing than an array", t);
      return super.visitEnhancedForLoop(t, method);
    }

    private void endsBy(StatementTree loop, ExpressionTree condition, List<Tree> changing) {
      Set<String> held = new HashSet<>();
      Set<String> changed = new HashSet<>();
      if (condition != null) {
        bounds(condition, held);
      }
      for (Tree t : changing) {
        changedIn(t, changed);
      }
      held.retainAll(changed);
      need(9, !held.isEmpty(), "a loop whose end can't be seen", loop);
    }
  }

  /** What && joins of a condition, and holds one name against a bound. */
  private static void bounds(Tree condition, Set<String> names) {
    Tree t = condition;
    while (t instanceof ParenthesizedTree) {
      t = ((ParenthesizedTree) t).getExpression();
    }
    if (t.getKind() == Tree.Kind.CONDITIONAL_AND) {
      bounds(((BinaryTree) t).getLeftOperand(), names);
      bounds(((BinaryTree) t).getRightOperand(), names);
    } else if (BOUNDS.contains(t.getKind()) && ((BinaryTree) t).getLeftOperand() instanceof IdentifierTree) {
      names.add(((BinaryTree) t).getLeftOperand().toString());
    }
  }

  private static String changedBy(UnaryTree t) {
    Set<Tree.Kind> steps = Set.of(Tree.Kind.POSTFIX_INCREMENT, Tree.Kind.POSTFIX_DECREMENT, Tree.Kind.PREFIX_INCREMENT,
        Tree.Kind.PREFIX_DECREMENT);
    return steps.contains(t.getKind()) ? t.getExpression().toString() : null;
  }

  private static void changedIn(Tree where, Set<String> names) {
    new TreeScanner<Void, Void>() {
      @Override public Void visitUnary(UnaryTree t, Void v) {
        if (changedBy(t) != null) {
          names.add(changedBy(t));
        }
        return super.visitUnary(t, v);
      }
    }.scan(where, null);
  }

  // ---- rules 8 and 11: how deep calls go

  private void depths() {
    Map<Element, Integer> known = new HashMap<>();
    int deepest = 0;
    for (Element method : callsOf.keySet()) {
      deepest = Math.max(deepest, depth(method, known, new HashSet<>()));
    }
    need(11, deepest > 1 && deepest <= MOST_DEEP, "calls go " + deepest + " deep");
  }

  private int depth(Element method, Map<Element, Integer> known, Set<Element> open) {
    if (!open.add(method)) {
      need(8, false, "it calls itself: " + method);
      return 0;
    }
    int deepest = 0;
    if (!known.containsKey(method)) {
      for (Element called : callsOf.getOrDefault(method, Set.of())) {
        deepest = Math.max(deepest, depth(called, known, open));
      }
      known.put(method, deepest + 1);
    }
    open.remove(method);
    return known.getOrDefault(method, 0);
  }

  // ---- rule 12: what an object is made of

  /** Objects and arrays (0), fields and elements (1) of an object and of all that it holds. */
  private static void count(Object o, IdentityHashMap<Object, Boolean> seen, int[] room) throws IllegalAccessException {
    if (o == null || seen.put(o, true) != null) {
      return;
    }
    room[0]++;
    if (o.getClass().isArray()) {
      room[1] += Array.getLength(o);
      return;
    }
    for (Field f : o.getClass().getDeclaredFields()) {
      if (!java.lang.reflect.Modifier.isStatic(f.getModifiers())) {
        room[1]++;
        f.setAccessible(true);
        if (!f.getType().isPrimitive()) {
          count(f.get(o), seen, room);
        }
      }
    }
  }

  private static void room() throws IllegalAccessException {
    int[] room = {0, 0};
    count(new GravelHasTheLastWord(), new IdentityHashMap<>(), room);
    need(12, room[0] <= 100 && room[1] <= 2000, "an object is of " + room[0] + " objects, " + room[1] + " elements");
  }

  public static void main(String[] args) throws IOException, IllegalAccessException {
    oneFile();
    JavaCompiler compiler = ToolProvider.getSystemJavaCompiler();
    try (StandardJavaFileManager files = compiler.getStandardFileManager(null, null, null)) {
      JavacTask task = (JavacTask) compiler.getTask(null, files, null, List.of("-Xlint:all", "-proc:none"), null,
          files.getJavaFileObjects(args.length > 0 ? Paths.get(args[0]) : SOURCE));
      CompilationUnitTree unit = task.parse().iterator().next();
      task.analyze();
      LanguageTest test = new LanguageTest(unit, Trees.instance(task));
      test.oneClass();
      test.new Reader().scan(unit, null);
      test.depths();
    }
    room();
    System.out.println(wrong == 0 ? "the rules of the language are kept" : wrong + " faults of form");
    if (wrong != 0) System.exit(1);
  }
}
