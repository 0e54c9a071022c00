import com.sun.source.tree.AssertTree;
import com.sun.source.tree.ClassTree;
import com.sun.source.tree.CompilationUnitTree;
import com.sun.source.tree.EnhancedForLoopTree;
import com.sun.source.tree.ExpressionTree;
import com.sun.source.tree.ForLoopTree;
import com.sun.source.tree.ImportTree;
import com.sun.source.tree.LambdaExpressionTree;
import com.sun.source.tree.MemberReferenceTree;
import com.sun.source.tree.MethodInvocationTree;
import com.sun.source.tree.MethodTree;
import com.sun.source.tree.NewArrayTree;
import com.sun.source.tree.NewClassTree;
import com.sun.source.tree.SynchronizedTree;
import com.sun.source.tree.ThrowTree;
import com.sun.source.tree.Tree;
import com.sun.source.tree.TryTree;
import com.sun.source.tree.VariableTree;
import com.sun.source.util.JavacTask;
import com.sun.source.util.TreePath;
import com.sun.source.util.TreePathScanner;
import com.sun.source.util.Trees;
import java.io.File;
import java.util.ArrayDeque;
import java.util.ArrayList;
import java.util.Deque;
import java.util.HashMap;
import java.util.List;
import java.util.Map;
import java.util.Set;
import java.util.TreeMap;
import java.util.TreeSet;
import javax.lang.model.element.Element;
import javax.lang.model.element.ElementKind;
import javax.lang.model.element.ExecutableElement;
import javax.lang.model.element.Modifier;
import javax.lang.model.element.TypeElement;
import javax.tools.JavaCompiler;
import javax.tools.StandardJavaFileManager;
import javax.tools.ToolProvider;

/** The class keeps to ../shared/LANGUAGE.md, as far as its source can be counted; the number of the rule stands ahead of each complaint. */
public final class LanguageTests {
  private static final Set<String> TYPES = Set.of("int", "long", "boolean", "String", "int[]", "int[][]", "Tape", "WaterReader", "Course", "Fleet", "Draws", "RuleReader",
      "RuleBook", "Mover", "Acts", "Thirds", "Records");
  private static final Set<String> LIBRARY = Set.of("java.lang.String.indexOf", "java.lang.String.length", "java.lang.System.arraycopy");
  private static final int MOST_LINES = 60, MOST_PARAMETERS = 7, MOST_DEEP = 8, MOST_CLASSES = 12, MOST_FIELDS = 20;

  private static int wrong = 0;
  private static void say(int rule, String what) { wrong++; System.out.println("rule " + rule + ": " + what); }

  private static CompilationUnitTree unit;
  private static Trees trees;
  private static int classes = 0, loops = 0;
  private static final Map<String, Set<String>> calls = new TreeMap<>();
  private static final Set<String> publicNames = new TreeSet<>(), otherNames = new TreeSet<>();

  private static long line(long at) { return unit.getLineMap().getLineNumber(at); }
  private static long start(Tree t) { return trees.getSourcePositions().getStartPosition(unit, t); }
  private static long finish(Tree t) { return trees.getSourcePositions().getEndPosition(unit, t); }

  private static String nameOf(Element method) {
    return ((TypeElement) method.getEnclosingElement()).getSimpleName() + "." + method.getSimpleName() + "/" + ((ExecutableElement) method).getParameters().size();
  }

  private static final class Walk extends TreePathScanner<Void, Void> {
    private final Deque<String> inMethod = new ArrayDeque<>();

    @Override public Void visitImport(ImportTree t, Void v) {
      if (!t.getQualifiedIdentifier().toString().equals("java.util.NoSuchElementException")) say(4, "import " + t.getQualifiedIdentifier());
      return super.visitImport(t, v);
    }

    @Override public Void visitClass(ClassTree t, Void v) {
      classes++;
      int fields = 0;
      boolean nested = !t.getSimpleName().contentEquals("GunLine");
      Set<Modifier> flags = t.getModifiers().getFlags();
      if (nested && (!flags.contains(Modifier.STATIC) || flags.contains(Modifier.PUBLIC) || flags.contains(Modifier.PROTECTED))) say(1, "class " + t.getSimpleName() + " is " + flags);
      if (nested && !(getCurrentPath().getParentPath().getLeaf() instanceof ClassTree)) say(2, "a local class " + t.getSimpleName());
      for (Tree member : t.getMembers()) {
        if (member.getKind() == Tree.Kind.BLOCK) say(5, "an initialiser block in " + t.getSimpleName());
        if (member instanceof VariableTree field) {
          boolean isStatic = field.getModifiers().getFlags().contains(Modifier.STATIC);
          if (!isStatic) fields++;
          else if (!field.getModifiers().getFlags().contains(Modifier.FINAL)) say(5, "static and not final: " + field);
          else if (!Set.of("int", "String", "int[]").contains(field.getType().toString())) say(5, "a constant of another type: " + field);
        }
      }
      if (fields > MOST_FIELDS) say(11, t.getSimpleName() + " has " + fields + " fields");
      return super.visitClass(t, v);
    }

    @Override public Void visitMethod(MethodTree t, Void v) {
      Element element = trees.getElement(getCurrentPath());
      String name = nameOf(element);
      calls.computeIfAbsent(name, k -> new TreeSet<>());
      if (element.getKind() == ElementKind.METHOD) (t.getModifiers().getFlags().contains(Modifier.PUBLIC) ? publicNames : otherNames).add(t.getName().toString());
      if (finish(t) >= 0) {
        long lines = line(finish(t)) - line(start(t)) + 1;
        if (lines > MOST_LINES) say(11, name + " has " + lines + " lines");
      }
      if (t.getParameters().size() > MOST_PARAMETERS) say(11, name + " has " + t.getParameters().size() + " parameters");
      inMethod.push(name);
      super.visitMethod(t, v);
      inMethod.pop();
      return null;
    }

    @Override public Void visitVariable(VariableTree t, Void v) {
      if (!TYPES.contains(t.getType().toString())) say(3, "a type that is not known to be fine: " + t);
      return super.visitVariable(t, v);
    }

    @Override public Void visitMethodInvocation(MethodInvocationTree t, Void v) {
      Element called = trees.getElement(getCurrentPath());
      String owner = called.getEnclosingElement().toString();
      if (owner.startsWith("GunLine")) {
        if (called.getKind() == ElementKind.METHOD && !inMethod.isEmpty()) calls.get(inMethod.peek()).add(nameOf(called));
      } else if (!LIBRARY.contains(owner + "." + called.getSimpleName()) && called.getKind() == ElementKind.METHOD) {
        say(4, "a call of " + owner + "." + called.getSimpleName());
      }
      return super.visitMethodInvocation(t, v);
    }

    @Override public Void visitNewClass(NewClassTree t, Void v) {
      boolean thrown = getCurrentPath().getParentPath().getLeaf() instanceof ThrowTree;
      if (t.getClassBody() != null) say(2, "an anonymous class");
      if (!inMethod.isEmpty() && !thrown) say(12, inMethod.peek() + " makes an object at each call: " + t);
      return super.visitNewClass(t, v);
    }

    @Override public Void visitNewArray(NewArrayTree t, Void v) {
      if (!inMethod.isEmpty()) say(12, inMethod.peek() + " makes an array at each call: " + t);
      return super.visitNewArray(t, v);
    }

    @Override public Void visitThrow(ThrowTree t, Void v) {
      if (!t.getExpression().toString().equals("new NoSuchElementException()") || !inMethod.peek().equals("GunLine.boat/2")) say(6, inMethod.peek() + ": " + t);
      return super.visitThrow(t, v);
    }

    @Override public Void visitForLoop(ForLoopTree t, Void v) {
      loops++;
      ExpressionTree bound = t.getCondition();
      if (bound == null) say(9, inMethod.peek() + ": a loop without a bound");
      return super.visitForLoop(t, v);
    }

    @Override public Void visitEnhancedForLoop(EnhancedForLoopTree t, Void v) { loops++; return super.visitEnhancedForLoop(t, v); }
    @Override public Void visitTry(TryTree t, Void v) { say(6, inMethod.peek() + ": try"); return super.visitTry(t, v); }
    @Override public Void visitLambdaExpression(LambdaExpressionTree t, Void v) { say(2, "a lambda"); return super.visitLambdaExpression(t, v); }
    @Override public Void visitMemberReference(MemberReferenceTree t, Void v) { say(2, "a method reference"); return super.visitMemberReference(t, v); }
    @Override public Void visitSynchronized(SynchronizedTree t, Void v) { say(6, "synchronized"); return super.visitSynchronized(t, v); }
    @Override public Void visitAssert(AssertTree t, Void v) { say(6, "assert"); return super.visitAssert(t, v); }
  }

  private static boolean reaches(String from, String to, Set<String> seen) {
    for (String next : calls.getOrDefault(from, Set.of())) if (next.equals(to) || seen.add(next) && reaches(next, to, seen)) return true;
    return false;
  }

  private static boolean isOneRecursion(String a, String b) { return reaches(a, b, new TreeSet<>()) && reaches(b, a, new TreeSet<>()); }

  /** The longest way of calls; methods that call one another count as one level. */
  private static int deepest(String from, Map<String, Integer> known) {
    Integer found = known.get(from);
    if (found != null) return found;
    List<String> circle = new ArrayList<>();
    for (String other : calls.keySet()) if (other.equals(from) || isOneRecursion(from, other)) circle.add(other);
    int below = 0;
    for (String member : circle) for (String next : calls.get(member)) if (!circle.contains(next)) below = Math.max(below, deepest(next, known));
    for (String member : circle) known.put(member, below + 1);
    return below + 1;
  }

  private static void depths() {
    Map<String, Integer> known = new HashMap<>();
    for (String method : calls.keySet()) {
      int deep = deepest(method, known);
      if (deep > MOST_DEEP) say(11, method + " goes " + deep + " deep");
    }
    for (String method : calls.keySet()) {
      boolean reader = method.startsWith("RuleReader.");
      if (!reader && isOneRecursion(method, method)) say(8, method + " calls itself without a depth");
    }
    if (!isOneRecursion("RuleReader.readUnit/2", "RuleReader.readUnit/2")) say(8, "the calls were not read");
  }

  public static void main(String[] args) throws Exception {
    JavaCompiler compiler = ToolProvider.getSystemJavaCompiler();
    try (StandardJavaFileManager files = compiler.getStandardFileManager(null, null, null)) {
      JavacTask task = (JavacTask) compiler.getTask(null, files, null, List.of("-proc:none"), null, files.getJavaFileObjects(new File("src/main/java/GunLine.java")));
      unit = task.parse().iterator().next();
      task.analyze();
      trees = Trees.instance(task);
      new Walk().scan(new TreePath(unit), null);
    }
    if (unit.getPackageName() != null) say(1, "a package line");
    for (String name : publicNames) if (otherNames.contains(name)) say(1, "a method that is not public bears the name of a public one: " + name);
    if (classes > MOST_CLASSES) say(11, classes + " classes");
    if (loops < 20 || publicNames.size() != 40) say(9, "the source was not read: " + loops + " loops, " + publicNames.size() + " public methods");
    depths();
    System.out.println(wrong == 0 ? "the class keeps to the rules" : wrong + " rules are not kept");
    if (wrong != 0) System.exit(1);
  }
}
