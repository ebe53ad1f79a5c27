import com.sun.source.tree.AssertTree;
import com.sun.source.tree.BinaryTree;
import com.sun.source.tree.ClassTree;
import com.sun.source.tree.CompilationUnitTree;
import com.sun.source.tree.CompoundAssignmentTree;
import com.sun.source.tree.ImportTree;
import com.sun.source.tree.LambdaExpressionTree;
import com.sun.source.tree.LiteralTree;
import com.sun.source.tree.MemberReferenceTree;
import com.sun.source.tree.MethodInvocationTree;
import com.sun.source.tree.MethodTree;
import com.sun.source.tree.NewArrayTree;
import com.sun.source.tree.NewClassTree;
import com.sun.source.tree.SynchronizedTree;
import com.sun.source.tree.ThrowTree;
import com.sun.source.tree.Tree;
import com.sun.source.tree.TryTree;
import com.sun.source.tree.TypeCastTree;
import com.sun.source.tree.VariableTree;
import com.sun.source.util.JavacTask;
import com.sun.source.util.TreePath;
import com.sun.source.util.TreePathScanner;
import com.sun.source.util.Trees;
import java.io.File;
import java.io.IOException;
import java.util.ArrayList;
import java.util.List;
import java.util.Map;
import java.util.Set;
import java.util.TreeMap;
import java.util.TreeSet;
import javax.lang.model.element.Element;
import javax.lang.model.element.Modifier;
import javax.lang.model.element.TypeElement;
import javax.tools.JavaCompiler;
import javax.tools.StandardJavaFileManager;
import javax.tools.ToolProvider;

/**
 * The class keeps to the rules of LANGUAGE.md that can be seen from its tree. What a rule lets it use but
 * it does without (try, division, objects that calls make, more of the library), it is held to as well.
 */
public final class LanguageTest extends TreePathScanner<Void, Void> {
  private static final String FILE = "src/main/java/GreetDesk.java";
  private static final Set<String> LIBRARY = Set.of("Math.min", "Math.max", "Math.floorMod", "String.length",
      "String.charAt", "Object.<init>");
  private static final Set<String> THROWN = Set.of("IllegalArgumentException", "IllegalStateException",
      "NoSuchElementException");
  private static final int MOST_PARAMETERS = 7;
  private static final int MOST_LINES = 60;
  private static final int MOST_DEEP = 8;
  private static final int MOST_CLASSES = 12;
  private static final int MOST_FIELDS = 20;

  private final Trees trees;
  private final CompilationUnitTree unit;
  private final List<String> broken = new ArrayList<>();
  private final Map<String, Set<String>> calls = new TreeMap<>();
  private final Set<String> face = new TreeSet<>();
  private final Set<String> hidden = new TreeSet<>();
  private int classes = 0;

  private LanguageTest(Trees trees, CompilationUnitTree unit) {
    this.trees = trees;
    this.unit = unit;
  }

  public static void main(String[] args) throws IOException {
    JavaCompiler compiler = ToolProvider.getSystemJavaCompiler();
    try (StandardJavaFileManager files = compiler.getStandardFileManager(null, null, null)) {
      JavacTask task = (JavacTask) compiler.getTask(null, files, null, List.of("-proc:none"), null,
          files.getJavaFileObjects(new File(FILE)));
      CompilationUnitTree unit = task.parse().iterator().next();
      task.analyze();
      LanguageTest reader = new LanguageTest(Trees.instance(task), unit);
      reader.scan(unit, null);
      reader.judge();
    }
    Check.close();
  }

  private void judge() {
    rule(1, "No private method bears the name of a public one");
    for (String method : hidden) {
      String name = method.substring(method.indexOf('.') + 1);
      Check.same(method, face.contains("GreetDesk." + name) ? 1 : 0, 0);
    }
    rule(11, "calls that are no recursion go at most eight deep");
    for (String method : face) {
      int deep = depth(method, 0);
      Check.same(method + " goes " + deep + " deep", deep <= MOST_DEEP ? 1 : 0, 1);
    }
    rule(11, "the file has at most some twelve classes");
    Check.same("classes " + classes, classes <= MOST_CLASSES ? 1 : 0, 1);
    Check.sentence("LANGUAGE.md", "A landing outside these rules is sent back with the rule's number");
    Check.sameText("outside", broken.toString(), "[]");
  }

  private static void rule(int number, String words) {
    Check.sentence("LANGUAGE.md, rule " + number, words);
  }

  /** How many calls stand open at once; a method that comes to itself again is far too deep. */
  private int depth(String method, int open) {
    int most = 1;
    if (open <= MOST_DEEP) {
      for (String callee : calls.getOrDefault(method, Set.of())) {
        most = Math.max(most, 1 + depth(callee, open + 1));
      }
    }
    return most;
  }

  @Override
  public Void visitImport(ImportTree tree, Void none) {
    hold(4, tree, tree.getQualifiedIdentifier().toString().equals("java.util.NoSuchElementException"));
    return null;
  }

  @Override
  public Void visitClass(ClassTree tree, Void none) {
    classes++;
    Set<Modifier> modifiers = tree.getModifiers().getFlags();
    boolean outer = getCurrentPath().getParentPath().getLeaf() == unit;
    hold(1, tree, outer == modifiers.contains(Modifier.PUBLIC));
    hold(2, tree, outer || modifiers.contains(Modifier.STATIC));
    int fields = 0;
    for (Tree member : tree.getMembers()) {
      hold(5, member, member.getKind() != Tree.Kind.BLOCK);
      fields += member instanceof VariableTree field && !isStatic(field) ? 1 : 0;
    }
    hold(11, tree, fields <= MOST_FIELDS);
    return super.visitClass(tree, none);
  }

  @Override
  public Void visitVariable(VariableTree tree, Void none) {
    hold(5, tree, !isStatic(tree) || tree.getModifiers().getFlags().contains(Modifier.FINAL));
    return super.visitVariable(tree, none);
  }

  @Override
  public Void visitMethod(MethodTree tree, Void none) {
    String name = nameOf(element());
    if (!isConstructor(tree)) {
      (tree.getModifiers().getFlags().contains(Modifier.PUBLIC) ? face : hidden).add(name);
    }
    hold(11, tree, tree.getParameters().size() <= MOST_PARAMETERS);
    hold(11, tree, lineOf(tree, false) - lineOf(tree, true) < MOST_LINES);
    return super.visitMethod(tree, none);
  }

  @Override
  public Void visitMethodInvocation(MethodInvocationTree tree, Void none) {
    Element called = element();
    String name = nameOf(called);
    boolean own = outermost(called).getSimpleName().contentEquals("GreetDesk");
    hold(4, tree, own || LIBRARY.contains(name));
    calls.computeIfAbsent(caller(), key -> new TreeSet<>()).add(name);
    return super.visitMethodInvocation(tree, none);
  }

  /** All memory is made with the desk: what a run makes is counted, and no call makes anything. */
  @Override
  public Void visitNewClass(NewClassTree tree, Void none) {
    hold(12, tree, isThrown() || isInConstructor());
    return super.visitNewClass(tree, none);
  }

  @Override
  public Void visitNewArray(NewArrayTree tree, Void none) {
    hold(12, tree, tree.getInitializers() != null ? method() == null : isInConstructor());
    return super.visitNewArray(tree, none);
  }

  @Override
  public Void visitThrow(ThrowTree tree, Void none) {
    hold(6, tree, !isInConstructor());
    hold(6, tree, tree.getExpression() instanceof NewClassTree made
        && THROWN.contains(made.getIdentifier().toString())
        && made.getArguments().stream().allMatch(text -> text instanceof LiteralTree));
    return super.visitThrow(tree, none);
  }

  @Override
  public Void visitTry(TryTree tree, Void none) {
    hold(7, tree, false);
    return super.visitTry(tree, none);
  }

  @Override
  public Void visitLambdaExpression(LambdaExpressionTree tree, Void none) {
    hold(2, tree, false);
    return super.visitLambdaExpression(tree, none);
  }

  @Override
  public Void visitMemberReference(MemberReferenceTree tree, Void none) {
    hold(2, tree, false);
    return super.visitMemberReference(tree, none);
  }

  @Override
  public Void visitSynchronized(SynchronizedTree tree, Void none) {
    hold(6, tree, false);
    return super.visitSynchronized(tree, none);
  }

  @Override
  public Void visitAssert(AssertTree tree, Void none) {
    hold(6, tree, false);
    return super.visitAssert(tree, none);
  }

  @Override
  public Void visitTypeCast(TypeCastTree tree, Void none) {
    hold(6, tree, tree.getType().getKind() == Tree.Kind.PRIMITIVE_TYPE);
    return super.visitTypeCast(tree, none);
  }

  /** Divisors would have to be looked at; the class needs none. */
  @Override
  public Void visitBinary(BinaryTree tree, Void none) {
    hold(7, tree, tree.getKind() != Tree.Kind.DIVIDE && tree.getKind() != Tree.Kind.REMAINDER);
    hold(10, tree, trees.getTypeMirror(getCurrentPath()).getKind().isPrimitive());
    return super.visitBinary(tree, none);
  }

  @Override
  public Void visitCompoundAssignment(CompoundAssignmentTree tree, Void none) {
    hold(7, tree, tree.getKind() != Tree.Kind.DIVIDE_ASSIGNMENT && tree.getKind() != Tree.Kind.REMAINDER_ASSIGNMENT);
    hold(10, tree, trees.getTypeMirror(getCurrentPath()).getKind().isPrimitive());
    return super.visitCompoundAssignment(tree, none);
  }

  private void hold(int rule, Tree tree, boolean kept) {
    if (!kept) {
      broken.add("rule " + rule + " in line " + lineOf(tree, true));
    }
  }

  private long lineOf(Tree tree, boolean first) {
    long at = first ? trees.getSourcePositions().getStartPosition(unit, tree)
        : trees.getSourcePositions().getEndPosition(unit, tree);
    return at < 0 ? 0 : unit.getLineMap().getLineNumber(at);
  }

  private boolean isThrown() {
    return getCurrentPath().getParentPath().getLeaf() instanceof ThrowTree;
  }

  private boolean isInConstructor() {
    return method() != null && isConstructor(method());
  }

  private static boolean isConstructor(MethodTree tree) {
    return tree.getName().contentEquals("<init>");
  }

  private static boolean isStatic(VariableTree tree) {
    return tree.getModifiers().getFlags().contains(Modifier.STATIC);
  }

  private MethodTree method() {
    for (TreePath path = getCurrentPath(); path != null; path = path.getParentPath()) {
      if (path.getLeaf() instanceof MethodTree found) {
        return found;
      }
    }
    return null;
  }

  private String caller() {
    return method() == null ? "" : nameOf(trees.getElement(trees.getPath(unit, method())));
  }

  private Element element() {
    return trees.getElement(getCurrentPath());
  }

  private static String nameOf(Element method) {
    return method.getEnclosingElement().getSimpleName() + "." + method.getSimpleName();
  }

  private static Element outermost(Element element) {
    Element at = element;
    while (!(at instanceof TypeElement) || at.getEnclosingElement() instanceof TypeElement) {
      at = at.getEnclosingElement();
    }
    return at;
  }
}
