import com.sun.source.tree.AssertTree;
import com.sun.source.tree.BinaryTree;
import com.sun.source.tree.ClassTree;
import com.sun.source.tree.CompilationUnitTree;
import com.sun.source.tree.CompoundAssignmentTree;
import com.sun.source.tree.DoWhileLoopTree;
import com.sun.source.tree.ExpressionTree;
import com.sun.source.tree.ForLoopTree;
import com.sun.source.tree.InstanceOfTree;
import com.sun.source.tree.LambdaExpressionTree;
import com.sun.source.tree.MemberReferenceTree;
import com.sun.source.tree.MethodInvocationTree;
import com.sun.source.tree.MethodTree;
import com.sun.source.tree.NewArrayTree;
import com.sun.source.tree.NewClassTree;
import com.sun.source.tree.SynchronizedTree;
import com.sun.source.tree.ThrowTree;
import com.sun.source.tree.Tree;
import com.sun.source.tree.TryTree;
import com.sun.source.tree.TypeCastTree;
import com.sun.source.tree.VariableTree;
import com.sun.source.tree.WhileLoopTree;
import com.sun.source.util.JavacTask;
import com.sun.source.util.TreePath;
import com.sun.source.util.TreePathScanner;
import com.sun.source.util.Trees;
import java.io.IOException;
import java.nio.file.Path;
import java.util.ArrayList;
import java.util.HashMap;
import java.util.LinkedHashSet;
import java.util.List;
import java.util.Map;
import java.util.Set;
import javax.lang.model.element.Element;
import javax.lang.model.element.ElementKind;
import javax.lang.model.element.Modifier;
import javax.lang.model.element.VariableElement;
import javax.lang.model.type.TypeMirror;
import javax.tools.JavaCompiler;
import javax.tools.StandardJavaFileManager;
import javax.tools.ToolProvider;

/** The rules in ../shared/LANGUAGE.md that can be seen in the tree that javac makes of the class. */
public final class RulesTest extends TreePathScanner<Void, Void> {
  private static final Path SOURCE = Path.of("src/main/java/CharredRoll.java");
  private static final int DEEPEST = 8;

  /** Of rule 4 what the class uses. */
  private static final Set<String> LIBRARY = Set.of(
      "java.lang.Math.max(int,int)", "java.lang.Math.min(int,int)", "java.lang.Math.abs(int)",
      "java.lang.Math.min(long,long)", "java.lang.Math.max(long,long)",
      "java.lang.Math.floorDiv(int,int)", "java.lang.Math.floorMod(int,int)", "java.lang.Integer.bitCount(int)",
      "java.lang.String.length()", "java.lang.String.charAt(int)", "java.lang.String.indexOf(int)",
      "java.lang.System.arraycopy(java.lang.Object,int,java.lang.Object,int,int)",
      "java.util.Arrays.fill(int[],int)");

  private final Trees trees;
  private final Map<Element, Set<Element>> calls = new HashMap<>();
  private final Map<Element, List<Element>> initialisers = new HashMap<>();
  private int methods;
  private int wrong;

  private RulesTest(Trees trees) {
    this.trees = trees;
  }

  public static void main(String[] args) throws IOException {
    JavaCompiler compiler = ToolProvider.getSystemJavaCompiler();
    if (compiler == null) {
      System.out.println("this Java has no compiler of its own; the tree isn't looked at");
      return;
    }
    try (StandardJavaFileManager files = compiler.getStandardFileManager(null, null, null)) {
      JavacTask task = (JavacTask) compiler.getTask(null, files, null, List.of("--release", "17", "-proc:none"), null,
          files.getJavaFileObjects(SOURCE));
      RulesTest test = new RulesTest(Trees.instance(task));
      Iterable<? extends CompilationUnitTree> units = task.parse();
      task.analyze();
      test.scan(units, null);
      test.depths();
      System.out.println(test.wrong == 0 ? "the rules are kept" : test.wrong + " rules are broken");
      if (test.wrong != 0) {
        System.exit(1);
      }
    }
  }

  private void check(int rule, String what, boolean kept) {
    if (!kept) {
      wrong++;
      Element method = method();
      System.out.println("rule " + rule + (method == null ? "" : ", in " + method.getEnclosingElement() + "." + method)
          + ": " + what);
    }
  }

  private Element element() {
    return trees.getElement(getCurrentPath());
  }

  /** The nearest of a kind around what is looked at, null without. */
  private TreePath around(Tree.Kind kind) {
    TreePath path = getCurrentPath();
    while (path != null && path.getLeaf().getKind() != kind) {
      path = path.getParentPath();
    }
    return path;
  }

  /** The method or constructor around what is looked at, null outside of any. */
  private Element method() {
    TreePath path = around(Tree.Kind.METHOD);
    return path == null ? null : trees.getElement(path);
  }

  private TypeMirror typeOf(Tree tree) {
    return trees.getTypeMirror(new TreePath(getCurrentPath(), tree));
  }

  private static boolean isOwn(Element e) {
    Element outer = e;
    while (outer.getEnclosingElement() != null && outer.getEnclosingElement().getKind() != ElementKind.PACKAGE) {
      outer = outer.getEnclosingElement();
    }
    return outer.getSimpleName().contentEquals("CharredRoll");
  }

  @Override
  public Void visitClass(ClassTree tree, Void v) {
    Element e = element();
    boolean outer = e.getEnclosingElement().getKind() == ElementKind.PACKAGE;
    check(2, e + " isn't a static class of the class", outer
        || e.getEnclosingElement().getKind() == ElementKind.CLASS && e.getModifiers().contains(Modifier.STATIC));
    return super.visitClass(tree, v);
  }

  @Override
  public Void visitMethod(MethodTree tree, Void v) {
    methods++;
    check(11, "more than seven parameters", tree.getParameters().size() <= 7);
    check(11, "more than sixty lines", tree.toString().lines().count() <= 60);
    calls.computeIfAbsent(element(), e -> new LinkedHashSet<>());
    return super.visitMethod(tree, v);
  }

  @Override
  public Void visitVariable(VariableTree tree, Void v) {
    VariableElement e = (VariableElement) element();
    check(3, "the type of " + tree, isAllowed(e.asType()));
    if (e.getModifiers().contains(Modifier.STATIC)) {
      check(5, tree + " isn't a constant", e.getModifiers().contains(Modifier.FINAL) && e.getConstantValue() != null);
    }
    return super.visitVariable(tree, v);
  }

  /** Of rule 3 what the class uses: numbers, rows of them, String, and its own classes. */
  private static boolean isAllowed(TypeMirror type) {
    String name = type.toString();
    return Set.of("int", "long", "boolean", "int[]", "long[]", "boolean[]", "java.lang.String").contains(name)
        || name.startsWith("CharredRoll.");
  }

  @Override
  public Void visitMethodInvocation(MethodInvocationTree tree, Void v) {
    Element called = element();
    // The call of the class above is put by the compiler.
    if (!tree.getMethodSelect().toString().equals("super")) {
      if (isOwn(called)) {
        addCall(called);
      } else {
        check(4, "the library's " + called.getEnclosingElement() + "." + called,
            LIBRARY.contains(called.getEnclosingElement() + "." + called));
      }
    }
    return super.visitMethodInvocation(tree, v);
  }

  private void addCall(Element called) {
    Element from = method();
    if (from != null) {
      calls.computeIfAbsent(from, e -> new LinkedHashSet<>()).add(called);
    } else {
      initialisers.computeIfAbsent(trees.getElement(around(Tree.Kind.CLASS)), e -> new ArrayList<>()).add(called);
    }
  }

  @Override
  public Void visitNewClass(NewClassTree tree, Void v) {
    made(tree);
    check(2, "a class without a name", tree.getClassBody() == null);
    if (isOwn(element())) {
      addCall(element());
    }
    return super.visitNewClass(tree, v);
  }

  @Override
  public Void visitNewArray(NewArrayTree tree, Void v) {
    made(tree);
    return super.visitNewArray(tree, v);
  }

  /** Constructors and fields alone make objects: the class says so, and the room of a run depends on it. */
  private void made(Tree tree) {
    Element method = method();
    check(12, "it makes " + tree, method == null || method.getKind() == ElementKind.CONSTRUCTOR);
  }

  @Override
  public Void visitBinary(BinaryTree tree, Void v) {
    if (tree.getKind() == Tree.Kind.DIVIDE || tree.getKind() == Tree.Kind.REMAINDER) {
      divisor(tree.getRightOperand());
    }
    if (tree.getKind() == Tree.Kind.EQUAL_TO || tree.getKind() == Tree.Kind.NOT_EQUAL_TO) {
      check(6, tree + " between texts", !typeOf(tree.getLeftOperand()).toString().equals("java.lang.String"));
    }
    check(10, tree + " joins texts", !typeOf(tree).toString().equals("java.lang.String"));
    return super.visitBinary(tree, v);
  }

  @Override
  public Void visitCompoundAssignment(CompoundAssignmentTree tree, Void v) {
    if (tree.getKind() == Tree.Kind.DIVIDE_ASSIGNMENT || tree.getKind() == Tree.Kind.REMAINDER_ASSIGNMENT) {
      divisor(tree.getExpression());
    }
    return super.visitCompoundAssignment(tree, v);
  }

  /** A constant that isn't 0, or a name that the same class holds to be 1 or more, or tests against 0. */
  private void divisor(ExpressionTree by) {
    String name = by.toString();
    if (by.getKind() == Tree.Kind.INT_LITERAL) {
      check(7, "it divides by 0", !name.equals("0"));
      return;
    }
    String code = around(Tree.Kind.CLASS).getLeaf().toString();
    check(7, "it divides by " + name, code.contains(name + " = Math.max(1, ") || code.contains(name + " != 0")
        || code.contains(name + " > 0"));
  }

  @Override
  public Void visitTypeCast(TypeCastTree tree, Void v) {
    check(6, "the cast " + tree, typeOf(tree).getKind().isPrimitive());
    return super.visitTypeCast(tree, v);
  }

  @Override
  public Void visitForLoop(ForLoopTree tree, Void v) {
    check(9, "a loop without an end", tree.getCondition() != null && !tree.getUpdate().isEmpty());
    return super.visitForLoop(tree, v);
  }

  @Override
  public Void visitWhileLoop(WhileLoopTree tree, Void v) {
    check(9, "a loop that doesn't count", false);
    return super.visitWhileLoop(tree, v);
  }

  @Override
  public Void visitDoWhileLoop(DoWhileLoopTree tree, Void v) {
    check(9, "a loop that doesn't count", false);
    return super.visitDoWhileLoop(tree, v);
  }

  @Override
  public Void visitThrow(ThrowTree tree, Void v) {
    check(6, "a throw", false);
    return super.visitThrow(tree, v);
  }

  @Override
  public Void visitTry(TryTree tree, Void v) {
    check(6, "a try", false);
    return super.visitTry(tree, v);
  }

  @Override
  public Void visitSynchronized(SynchronizedTree tree, Void v) {
    check(6, "synchronized", false);
    return super.visitSynchronized(tree, v);
  }

  @Override
  public Void visitAssert(AssertTree tree, Void v) {
    check(6, "an assert", false);
    return super.visitAssert(tree, v);
  }

  @Override
  public Void visitInstanceOf(InstanceOfTree tree, Void v) {
    check(6, "an instanceof, where there is nothing to choose from", false);
    return super.visitInstanceOf(tree, v);
  }

  @Override
  public Void visitLambdaExpression(LambdaExpressionTree tree, Void v) {
    check(2, "a lambda", false);
    return super.visitLambdaExpression(tree, v);
  }

  @Override
  public Void visitMemberReference(MemberReferenceTree tree, Void v) {
    check(2, "a method reference", false);
    return super.visitMemberReference(tree, v);
  }

  /** Rules 8 and 11: no call comes back to itself, and those that stand open at once are eight at most. */
  private void depths() {
    check(11, "the methods were found", methods > 100);
    Map<Element, Integer> depth = new HashMap<>();
    int deepest = 0;
    for (Element from : new ArrayList<>(calls.keySet())) {
      int its = depthOf(from, depth, new ArrayList<>());
      check(11, from + " goes " + its + " deep", its <= DEEPEST);
      deepest = Math.max(deepest, its);
    }
    check(11, "the calls were found, " + deepest + " deep", deepest > 4);
  }

  private int depthOf(Element from, Map<Element, Integer> depth, List<Element> open) {
    if (open.contains(from)) {
      check(8, from + " comes back to itself", false);
      return 0;
    }
    if (depth.containsKey(from)) {
      return depth.get(from);
    }
    open.add(from);
    int most = 0;
    Set<Element> next = new LinkedHashSet<>(calls.getOrDefault(from, Set.of()));
    if (from.getKind() == ElementKind.CONSTRUCTOR) {
      next.addAll(initialisers.getOrDefault(from.getEnclosingElement(), List.of()));
    }
    for (Element to : next) {
      most = Math.max(most, depthOf(to, depth, open));
    }
    open.remove(from);
    depth.put(from, most + 1);
    return most + 1;
  }
}
