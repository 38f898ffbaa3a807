import com.sun.source.tree.BinaryTree;
import com.sun.source.tree.BlockTree;
import com.sun.source.tree.ClassTree;
import com.sun.source.tree.CompilationUnitTree;
import com.sun.source.tree.ExpressionTree;
import com.sun.source.tree.ForLoopTree;
import com.sun.source.tree.LiteralTree;
import com.sun.source.tree.MethodInvocationTree;
import com.sun.source.tree.MethodTree;
import com.sun.source.tree.NewArrayTree;
import com.sun.source.tree.NewClassTree;
import com.sun.source.tree.ThrowTree;
import com.sun.source.tree.Tree;
import com.sun.source.tree.VariableTree;
import com.sun.source.tree.WhileLoopTree;
import com.sun.source.util.JavacTask;
import com.sun.source.util.TreePath;
import com.sun.source.util.TreePathScanner;
import com.sun.source.util.TreeScanner;
import com.sun.source.util.Trees;
import java.io.File;
import java.util.Collections;
import java.util.EnumSet;
import java.util.HashMap;
import java.util.IdentityHashMap;
import java.util.LinkedHashMap;
import java.util.LinkedHashSet;
import java.util.Map;
import java.util.Set;
import javax.lang.model.element.Element;
import javax.lang.model.element.ElementKind;
import javax.lang.model.element.Modifier;
import javax.lang.model.element.TypeElement;
import javax.tools.JavaCompiler;
import javax.tools.StandardJavaFileManager;
import javax.tools.ToolProvider;

/** The rules of LANGUAGE.md that can be seen in the program as the compiler reads it; each row tells its rule. */
public final class LanguageTest extends TreePathScanner<Void, Void> {

  private static final int MOST_PARAMETERS = 7;
  private static final int MOST_LINES = 60;
  private static final int MOST_DEEP = 8;
  private static final int MOST_FIELDS = 20;
  private static final int MOST_CLASSES = 12;

  private static final Set<String> EXCEPTIONS = Set.of("IllegalStateException", "IllegalArgumentException",
      "IndexOutOfBoundsException", "ArithmeticException", "UnsupportedOperationException", "NoSuchElementException",
      "RuntimeException");
  private static final Set<String> LIBRARY = Set.of("Math.abs", "Math.max", "Math.min", "Integer.bitCount",
      "System.arraycopy");
  private static final Set<String> TYPES = Set.of("int", "long", "boolean", "int[]", "long[]", "boolean[]", "int[][]");
  /** What the program does without: lambdas, what a rule leaves out, and what no rule needs here. */
  private static final EnumSet<Tree.Kind> NOT_THERE = EnumSet.of(Tree.Kind.LAMBDA_EXPRESSION, Tree.Kind.MEMBER_REFERENCE,
      Tree.Kind.TRY, Tree.Kind.SYNCHRONIZED, Tree.Kind.ASSERT, Tree.Kind.INSTANCE_OF, Tree.Kind.SWITCH_EXPRESSION,
      Tree.Kind.IMPORT, Tree.Kind.PACKAGE, Tree.Kind.ANNOTATION, Tree.Kind.DO_WHILE_LOOP, Tree.Kind.LABELED_STATEMENT);

  private final Trees trees;
  private final CompilationUnitTree unit;
  private final Map<Element, Set<Element>> calls = new LinkedHashMap<>();
  private final Map<Element, Integer> depths = new HashMap<>();
  private int classes;

  private LanguageTest(Trees trees, CompilationUnitTree unit) {
    this.trees = trees;
    this.unit = unit;
  }

  public static void main(String[] args) throws Exception {
    File file = new File(System.getProperty("source", "src/main/java/MastWind.java"));
    JavaCompiler compiler = ToolProvider.getSystemJavaCompiler();
    try (StandardJavaFileManager files = compiler.getStandardFileManager(null, null, null)) {
      JavacTask task = (JavacTask) compiler.getTask(null, files, null, null, null, files.getJavaFileObjects(file));
      CompilationUnitTree unit = task.parse().iterator().next();
      task.analyze();
      LanguageTest test = new LanguageTest(Trees.instance(task), unit);
      test.scan(new TreePath(unit), null);
      test.deepest();
      rule(11, "classes", test.classes, MOST_CLASSES);
    }
    Due.finish();
  }

  private static void rule(int number, String what, boolean holds) {
    Due.is("rule " + number + ": " + what + " fits (1)", holds ? 1 : 0, 1);
  }

  private static void rule(int number, String what, int got, int most) {
    rule(number, what + ", " + got + " of " + most, got <= most);
  }

  private String place(Tree tree) {
    long at = trees.getSourcePositions().getStartPosition(unit, tree);
    return " in line " + unit.getLineMap().getLineNumber(Math.max(at, 0));
  }

  private Element elementOf(Tree tree) {
    return trees.getElement(new TreePath(getCurrentPath(), tree));
  }

  private static boolean isOwn(Element e) {
    Element at = e;
    while (at != null && at.getKind() != ElementKind.PACKAGE) {
      if (at.getKind() == ElementKind.CLASS && at.getSimpleName().contentEquals("MastWind")) {
        return true;
      }
      at = at.getEnclosingElement();
    }
    return false;
  }

  @Override
  public Void scan(Tree tree, Void none) {
    if (tree != null) {
      rule(2, tree.getKind() + place(tree), !NOT_THERE.contains(tree.getKind()));
    }
    return super.scan(tree, none);
  }

  // ---- classes and what they hold

  @Override
  public Void visitClass(ClassTree tree, Void none) {
    classes++;
    int fields = 0;
    for (Tree member : tree.getMembers()) {
      boolean isBlock = member instanceof BlockTree;
      rule(5, "no block" + place(member), !isBlock);
      if (member instanceof VariableTree && !isStatic((VariableTree) member)) {
        fields++;
      }
    }
    rule(11, "fields of " + tree.getSimpleName(), fields, MOST_FIELDS);
    return super.visitClass(tree, none);
  }

  private static boolean isStatic(VariableTree tree) {
    return tree.getModifiers().getFlags().contains(Modifier.STATIC);
  }

  @Override
  public Void visitVariable(VariableTree tree, Void none) {
    Element e = trees.getElement(getCurrentPath());
    String type = e.asType().toString();
    String plain = type.replace("[]", "");
    boolean own = plain.startsWith("MastWind.") && (type.equals(plain) || type.equals(plain + "[]"));
    rule(3, type + place(tree), TYPES.contains(type) || own);
    if (e.getKind() == ElementKind.FIELD && isStatic(tree)) {
      boolean constant = tree.getModifiers().getFlags().contains(Modifier.FINAL)
          && (type.equals("int") || type.equals("long") || type.equals("boolean"));
      rule(5, "constant" + place(tree), constant && tree.getInitializer() != null);
    }
    return super.visitVariable(tree, none);
  }

  // ---- methods

  @Override
  public Void visitMethod(MethodTree tree, Void none) {
    calls.put(trees.getElement(getCurrentPath()), new LinkedHashSet<>());
    rule(11, "parameters of " + tree.getName(), tree.getParameters().size(), MOST_PARAMETERS);
    if (tree.getBody() != null) {
      long first = trees.getSourcePositions().getStartPosition(unit, tree);
      long last = trees.getSourcePositions().getEndPosition(unit, tree);
      long lines = last < first ? 1 : unit.getLineMap().getLineNumber(last) - unit.getLineMap().getLineNumber(first) + 1;
      rule(11, "lines of " + tree.getName(), (int) lines, MOST_LINES);
    }
    return super.visitMethod(tree, none);
  }

  private Element methodHere() {
    TreePath at = getCurrentPath();
    while (at != null && !(at.getLeaf() instanceof MethodTree)) {
      at = at.getParentPath();
    }
    return at == null ? null : trees.getElement(at);
  }

  private void calls(Element called) {
    Element here = methodHere();
    if (here != null && isOwn(called)) {
      calls.get(here).add(called);
    }
  }

  @Override
  public Void visitMethodInvocation(MethodInvocationTree tree, Void none) {
    Element called = elementOf(tree.getMethodSelect());
    if (!isOwn(called)) {
      String name = called.getEnclosingElement().getSimpleName() + "." + called.getSimpleName();
      // Each constructor calls that of Object.
      rule(4, name + place(tree), LIBRARY.contains(name) || name.equals("Object.<init>"));
    }
    calls(called);
    return super.visitMethodInvocation(tree, none);
  }

  @Override
  public Void visitNewClass(NewClassTree tree, Void none) {
    Element made = trees.getElement(getCurrentPath());
    Element here = methodHere();
    boolean whenMade = here == null || here.getKind() == ElementKind.CONSTRUCTOR;
    boolean isThrown = getCurrentPath().getParentPath().getLeaf() instanceof ThrowTree;
    rule(12, "what is made" + place(tree), isThrown || whenMade && isOwn(made));
    calls(made);
    return super.visitNewClass(tree, none);
  }

  @Override
  public Void visitNewArray(NewArrayTree tree, Void none) {
    Element here = methodHere();
    rule(12, "the array that is made" + place(tree), here == null || here.getKind() == ElementKind.CONSTRUCTOR);
    return super.visitNewArray(tree, none);
  }

  @Override
  public Void visitThrow(ThrowTree tree, Void none) {
    boolean fits = tree.getExpression() instanceof NewClassTree;
    if (fits) {
      NewClassTree made = (NewClassTree) tree.getExpression();
      TypeElement type = (TypeElement) trees.getElement(new TreePath(getCurrentPath(), made)).getEnclosingElement();
      fits = EXCEPTIONS.contains(type.getSimpleName().toString()) && made.getArguments().size() <= 1;
      for (Tree argument : made.getArguments()) {
        fits = fits && argument instanceof LiteralTree;
      }
    }
    Element here = methodHere();
    fits = fits && here != null && here.getModifiers().contains(Modifier.PUBLIC) && here.getKind() == ElementKind.METHOD;
    rule(6, "throw" + place(tree), fits);
    return super.visitThrow(tree, none);
  }

  @Override
  public Void visitBinary(BinaryTree tree, Void none) {
    String type = String.valueOf(trees.getTypeMirror(getCurrentPath()));
    rule(10, "no joining of texts" + place(tree), !type.equals("java.lang.String"));
    rule(3, "no doubles" + place(tree), !type.equals("double") && !type.equals("float"));
    return super.visitBinary(tree, none);
  }

  // ---- loops

  private void hasBound(Tree loop, ExpressionTree condition) {
    Set<Tree.Kind> compares = EnumSet.of(Tree.Kind.LESS_THAN, Tree.Kind.LESS_THAN_EQUAL, Tree.Kind.GREATER_THAN,
        Tree.Kind.GREATER_THAN_EQUAL);
    boolean[] found = {false};
    new TreeScanner<Void, Void>() {
      @Override
      public Void scan(Tree tree, Void none) {
        found[0] = found[0] || tree != null && compares.contains(tree.getKind());
        return super.scan(tree, none);
      }
    }.scan(condition, null);
    rule(9, "the loop's own bound" + place(loop), found[0]);
  }

  @Override
  public Void visitForLoop(ForLoopTree tree, Void none) {
    hasBound(tree, tree.getCondition());
    return super.visitForLoop(tree, none);
  }

  @Override
  public Void visitWhileLoop(WhileLoopTree tree, Void none) {
    hasBound(tree, tree.getCondition());
    return super.visitWhileLoop(tree, none);
  }

  // ---- calls of calls

  private void deepest() {
    for (Element e : calls.keySet()) {
      Set<Element> open = Collections.newSetFromMap(new IdentityHashMap<>());
      rule(11, "how deep calls go from " + e, deep(e, open), MOST_DEEP);
    }
  }

  private int deep(Element e, Set<Element> open) {
    Integer known = depths.get(e);
    if (known != null) {
      return known;
    }
    if (!open.add(e)) {
      rule(8, "no recursion of " + e, false);
      return 0;
    }
    int below = 0;
    for (Element called : calls.getOrDefault(e, Set.of())) {
      below = Math.max(below, deep(called, open));
    }
    open.remove(e);
    depths.put(e, below + 1);
    return below + 1;
  }
}
