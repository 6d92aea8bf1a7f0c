import com.sun.source.tree.ClassTree;
import com.sun.source.tree.CompilationUnitTree;
import com.sun.source.tree.DoWhileLoopTree;
import com.sun.source.tree.ExpressionTree;
import com.sun.source.tree.ForLoopTree;
import com.sun.source.tree.LiteralTree;
import com.sun.source.tree.MethodInvocationTree;
import com.sun.source.tree.MethodTree;
import com.sun.source.tree.NewArrayTree;
import com.sun.source.tree.NewClassTree;
import com.sun.source.tree.ThrowTree;
import com.sun.source.tree.Tree;
import com.sun.source.tree.VariableTree;
import com.sun.source.tree.WhileLoopTree;
import com.sun.source.util.JavacTask;
import com.sun.source.util.SourcePositions;
import com.sun.source.util.TreePathScanner;
import com.sun.source.util.Trees;
import java.io.IOException;
import java.nio.file.Path;
import java.util.LinkedHashMap;
import java.util.LinkedHashSet;
import java.util.List;
import java.util.Map;
import java.util.Set;
import javax.lang.model.element.Element;
import javax.lang.model.element.ElementKind;
import javax.lang.model.element.ExecutableElement;
import javax.lang.model.element.Modifier;
import javax.tools.JavaCompiler;
import javax.tools.StandardJavaFileManager;
import javax.tools.ToolProvider;

/** Rules of ../shared/LANGUAGE.md, as far as the compiler's own tree of the class can tell. */
public final class RulesTest extends TreePathScanner<Void, Void> {
  private static final Set<String> LIBRARY = Set.of(
      "java.util.Arrays.fill", "java.lang.System.arraycopy", "java.lang.Math.max", "java.lang.Math.min",
      "java.lang.Object.<init>");

  private static final Set<String> THROWN = Set.of(
      "IllegalStateException", "IllegalArgumentException", "IndexOutOfBoundsException");

  private static final Set<String> TYPES =
      Set.of("int", "boolean", "int[]", "TypeTable", "TermStore", "Bindings", "Walk");

  private static final int MOST_LINES = 60;
  private static final int MOST_PARAMETERS = 7;
  private static final int MOST_DEEP = 8;
  private static final int MOST_OPEN = 300;
  // Types alone are gone into by recursion, and the document keeps their height to this.
  private static final int MOST_LEVELS = 24;

  private final Trees trees;
  private final CompilationUnitTree unit;
  private final Map<ExecutableElement, Set<ExecutableElement>> calls = new LinkedHashMap<>();
  private ExecutableElement within = null;

  private RulesTest(JavacTask task, CompilationUnitTree unit) {
    this.trees = Trees.instance(task);
    this.unit = unit;
  }

  public static void main(String[] args) throws IOException {
    JavaCompiler compiler = ToolProvider.getSystemJavaCompiler();
    try (StandardJavaFileManager files = compiler.getStandardFileManager(null, null, null)) {
      var source = files.getJavaFileObjects(Path.of("src/main/java/TermLoom.java"));
      JavacTask task = (JavacTask) compiler.getTask(null, files, null, List.of("-proc:none"), null, source);
      CompilationUnitTree unit = task.parse().iterator().next();
      task.analyze();
      RulesTest test = new RulesTest(task, unit);
      test.scan(unit, null);
      test.callGraph();
    }
    Checks.end("RulesTest");
  }

  @Override
  public Void visitMethod(MethodTree method, Void none) {
    within = (ExecutableElement) trees.getElement(getCurrentPath());
    calls.put(within, new LinkedHashSet<>());
    SourcePositions positions = trees.getSourcePositions();
    long first = lineOf(positions.getStartPosition(unit, method));
    long last = lineOf(positions.getEndPosition(unit, method));
    holds(within + " is short", last - first < MOST_LINES);
    holds(within + " takes few parameters", method.getParameters().size() <= MOST_PARAMETERS);
    super.visitMethod(method, none);
    within = null;
    return null;
  }

  private long lineOf(long position) {
    return unit.getLineMap().getLineNumber(position);
  }

  @Override
  public Void visitMethodInvocation(MethodInvocationTree call, Void none) {
    ExecutableElement called = (ExecutableElement) trees.getElement(getCurrentPath());
    if (isOwn(called)) {
      calls.get(within).add(called);
    } else {
      String name = called.getEnclosingElement() + "." + called.getSimpleName();
      holds("the library's " + name + " may be used", LIBRARY.contains(name));
    }
    return super.visitMethodInvocation(call, none);
  }

  private static boolean isOwn(Element element) {
    Element outermost = element;
    while (outermost.getEnclosingElement().getKind() != ElementKind.PACKAGE) {
      outermost = outermost.getEnclosingElement();
    }
    return outermost.getSimpleName().contentEquals("TermLoom");
  }

  @Override
  public Void visitThrow(ThrowTree thrown, Void none) {
    boolean written = false;
    if (thrown.getExpression() instanceof NewClassTree made) {
      List<? extends ExpressionTree> arguments = made.getArguments();
      written = THROWN.contains(made.getIdentifier().toString())
          && (arguments.isEmpty() || arguments.size() == 1 && arguments.get(0) instanceof LiteralTree);
    }
    holds(thrown + " is made where it is thrown, with a written text", written);
    holds(thrown + " is in no constructor", within.getKind() == ElementKind.METHOD);
    return super.visitThrow(thrown, none);
  }

  @Override
  public Void visitNewClass(NewClassTree made, Void none) {
    boolean thrown = getCurrentPath().getParentPath().getLeaf() instanceof ThrowTree;
    holds(made + " is thrown, or made by a constructor", thrown || isMaking());
    return super.visitNewClass(made, none);
  }

  @Override
  public Void visitNewArray(NewArrayTree made, Void none) {
    holds(made + " is made by a constructor", isMaking());
    return super.visitNewArray(made, none);
  }

  /** A field's first value is made by the constructor, too. */
  private boolean isMaking() {
    return within == null || within.getKind() == ElementKind.CONSTRUCTOR;
  }

  @Override
  public Void visitVariable(VariableTree variable, Void none) {
    String type = variable.getType().toString();
    holds(variable.getName() + " is of a type that may be used: " + type, TYPES.contains(type));
    return super.visitVariable(variable, none);
  }

  @Override
  public Void visitForLoop(ForLoopTree loop, Void none) {
    boolean counted = loop.getCondition() != null && loop.getUpdate().size() == 1;
    holds("a loop counts, and ends: " + loop.getCondition(), counted);
    return super.visitForLoop(loop, none);
  }

  @Override
  public Void visitWhileLoop(WhileLoopTree loop, Void none) {
    holds("each loop has a counter: " + loop.getCondition(), false);
    return super.visitWhileLoop(loop, none);
  }

  @Override
  public Void visitDoWhileLoop(DoWhileLoopTree loop, Void none) {
    holds("each loop has a counter: " + loop.getCondition(), false);
    return super.visitDoWhileLoop(loop, none);
  }

  @Override
  public Void visitClass(ClassTree tree, Void none) {
    for (Tree member : tree.getMembers()) {
      holds(tree.getSimpleName() + " has no initialiser block", member.getKind() != Tree.Kind.BLOCK);
    }
    return super.visitClass(tree, none);
  }

  private void callGraph() {
    int recursive = 0;
    for (ExecutableElement method : calls.keySet()) {
      if (reached(method).contains(method)) {
        recursive++;
        holds(method + " calls itself, so it is private", method.getModifiers().contains(Modifier.PRIVATE));
        String last = method.getParameters().get(method.getParameters().size() - 1).toString();
        Checks.due(method + " carries its depth", last, "levels");
      }
      int deep = deep(method, new LinkedHashSet<>());
      holds(method + " goes " + deep + " calls deep", deep <= MOST_DEEP);
    }
    holds("few calls stand open at once", MOST_DEEP + recursive * MOST_LEVELS < MOST_OPEN);
  }

  private Set<ExecutableElement> reached(ExecutableElement method) {
    Set<ExecutableElement> reached = new LinkedHashSet<>(calls.get(method));
    for (int before = 0; before < reached.size(); ) {
      before = reached.size();
      for (ExecutableElement called : List.copyOf(reached)) {
        reached.addAll(calls.getOrDefault(called, Set.of()));
      }
    }
    return reached;
  }

  /** How many methods stand open at most, each of them once. */
  private int deep(ExecutableElement method, Set<ExecutableElement> open) {
    open.add(method);
    int most = 0;
    for (ExecutableElement called : calls.getOrDefault(method, Set.of())) {
      if (!open.contains(called)) {
        most = Math.max(most, deep(called, open));
      }
    }
    open.remove(method);
    return most + 1;
  }

  private static void holds(String what, boolean holds) {
    Checks.due(what, holds ? "yes" : "no", "yes");
  }
}
