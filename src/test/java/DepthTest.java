import com.sun.source.tree.CompilationUnitTree;
import com.sun.source.tree.MethodInvocationTree;
import com.sun.source.tree.MethodTree;
import com.sun.source.tree.NewClassTree;
import com.sun.source.util.JavacTask;
import com.sun.source.util.TreePath;
import com.sun.source.util.TreePathScanner;
import com.sun.source.util.Trees;
import java.nio.file.Path;
import java.util.ArrayList;
import java.util.LinkedHashMap;
import java.util.LinkedHashSet;
import java.util.List;
import java.util.Map;
import java.util.Set;
import javax.lang.model.element.Element;
import javax.lang.model.element.Modifier;
import javax.tools.JavaCompiler;
import javax.tools.StandardJavaFileManager;
import javax.tools.ToolProvider;

/** How deep the calls of the class go (rules 8 and 11 of LANGUAGE.md), as the compiler sees them. */
public final class DepthTest {
  private static final int DEEPEST = 8;
  private static int wrong = 0;

  private final Map<Element, Set<Element>> calls = new LinkedHashMap<>();

  private DepthTest() { }

  /** Notes which methods and constructors of the file each of them calls. */
  private static final class Scanner extends TreePathScanner<Void, Void> {
    private final Trees trees;
    private final Map<Element, Set<Element>> calls;
    private Element within;

    Scanner(Trees trees, Map<Element, Set<Element>> calls) {
      this.trees = trees;
      this.calls = calls;
    }

    private void note(Element called) {
      if (within != null && called != null) {
        calls.get(within).add(called);
      }
    }

    @Override
    public Void visitMethod(MethodTree node, Void nothing) {
      Element before = within;
      within = trees.getElement(getCurrentPath());
      calls.put(within, new LinkedHashSet<>());
      super.visitMethod(node, nothing);
      within = before;
      return null;
    }

    @Override
    public Void visitMethodInvocation(MethodInvocationTree node, Void nothing) {
      note(trees.getElement(new TreePath(getCurrentPath(), node.getMethodSelect())));
      return super.visitMethodInvocation(node, nothing);
    }

    @Override
    public Void visitNewClass(NewClassTree node, Void nothing) {
      note(trees.getElement(getCurrentPath()));
      return super.visitNewClass(node, nothing);
    }
  }

  private void read(Path source) throws Exception {
    JavaCompiler compiler = ToolProvider.getSystemJavaCompiler();
    try (StandardJavaFileManager files = compiler.getStandardFileManager(null, null, null)) {
      JavacTask task = (JavacTask) compiler.getTask(null, files, null, List.of("-proc:none"), null,
          files.getJavaFileObjects(source));
      Iterable<? extends CompilationUnitTree> units = task.parse();
      task.analyze();
      for (CompilationUnitTree unit : units) {
        new Scanner(Trees.instance(task), calls).scan(unit, null);
      }
    }
  }

  /** The longest row of calls that begins with one; a row that comes back to itself is a fault. */
  private List<Element> deepest(Element first, List<Element> open) {
    if (open.contains(first)) {
      wrong++;
      System.out.println("rule 8: a recursion: " + open);
      return List.of();
    }
    List<Element> nowOpen = joined(open, first);
    List<Element> best = List.of();
    for (Element next : calls.get(first)) {
      // What the library calls in turn is not the class's own.
      List<Element> row = calls.containsKey(next) ? deepest(next, nowOpen) : List.of(next);
      best = row.size() > best.size() ? row : best;
    }
    List<Element> whole = new ArrayList<>(List.of(first));
    whole.addAll(best);
    return whole;
  }

  private static List<Element> joined(List<Element> row, Element last) {
    List<Element> all = new ArrayList<>(row);
    all.add(last);
    return all;
  }

  public static void main(String[] args) throws Exception {
    DepthTest test = new DepthTest();
    test.read(Path.of(args[0]));
    List<Element> deepest = List.of();
    for (Element each : test.calls.keySet()) {
      if (each.getModifiers().contains(Modifier.PUBLIC)) {
        List<Element> row = test.deepest(each, List.of());
        deepest = row.size() > deepest.size() ? row : deepest;
      }
    }
    if (deepest.size() < 2 || deepest.size() > DEEPEST) {
      wrong++;
      System.out.println("rule 11: the deepest row of calls is " + deepest);
    }
    System.out.println(wrong == 0 ? "calls go " + deepest.size() + " deep at the most" : wrong + " faults");
    System.exit(wrong == 0 ? 0 : 1);
  }
}
