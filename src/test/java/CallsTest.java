import com.sun.source.tree.ClassTree;
import com.sun.source.tree.CompilationUnitTree;
import com.sun.source.tree.MethodInvocationTree;
import com.sun.source.tree.MethodTree;
import com.sun.source.tree.NewClassTree;
import com.sun.source.tree.Tree;
import com.sun.source.util.JavacTask;
import com.sun.source.util.TreePathScanner;
import com.sun.source.util.Trees;
import java.util.HashMap;
import java.util.LinkedHashSet;
import java.util.List;
import java.util.Map;
import java.util.Set;
import javax.lang.model.element.Element;
import javax.lang.model.element.ElementKind;
import javax.lang.model.element.TypeElement;
import javax.tools.JavaCompiler;
import javax.tools.StandardJavaFileManager;
import javax.tools.ToolProvider;

/** Who calls whom in the program, as the compiler reads it: rules 4 (the library), 8 (recursion) and 11 (how deep) of LANGUAGE.md. */
public final class CallsTest extends Helps {
  private static final int DEEPEST = 8;
  private static final Set<String> LIBRARY = Set.of("Object.<init>", "Math.min", "Math.max", "Integer.bitCount", "Integer.compare", "System.arraycopy");

  private final Map<String, Set<String>> calls = new HashMap<>();
  private final Set<String> ofTheLibrary = new LinkedHashSet<>();

  public static void main(String[] args) throws Exception {
    CallsTest test = new CallsTest();
    test.read(args.length > 0 ? args[0] : "src/main/java/SwornLists.java");
    for (String one : test.ofTheLibrary) due("of the library, " + one + " may stand", LIBRARY.contains(one) ? 1 : 0, 1);
    int deepest = 0;
    for (String one : test.calls.keySet()) deepest = Math.max(deepest, test.depth(one, new LinkedHashSet<>()));
    due("the face is among what was read", test.calls.containsKey("SwornLists.digest") ? 1 : 0, 1);
    due("calls stand at most " + DEEPEST + " deep, now " + deepest, deepest <= DEEPEST ? 1 : 0, 1);
    end("CallsTest");
  }

  private void read(String path) throws Exception {
    JavaCompiler compiler = ToolProvider.getSystemJavaCompiler();
    try (StandardJavaFileManager files = compiler.getStandardFileManager(null, null, null)) {
      JavacTask task = (JavacTask) compiler.getTask(null, files, null, List.of("-proc:none"), null, files.getJavaFileObjects(path));
      Iterable<? extends CompilationUnitTree> units = task.parse();
      task.analyze();
      for (CompilationUnitTree unit : units) new Scan(Trees.instance(task)).scan(unit, null);
    }
  }

  /** How many calls stand open at once from a method on, itself included. */
  private int depth(String method, Set<String> open) {
    if (!open.add(method)) {
      due("no recursion: " + open + " then " + method, 1, 0);
      return 0;
    }
    int most = 0;
    for (String next : calls.getOrDefault(method, Set.of())) most = Math.max(most, depth(next, open));
    open.remove(method);
    return most + 1;
  }

  private final class Scan extends TreePathScanner<Void, Void> {
    private final Trees trees;
    private String type = "";
    private String method = "";

    Scan(Trees trees) { this.trees = trees; }

    @Override public Void visitClass(ClassTree tree, Void none) {
      String outerType = type, outerMethod = method;
      type = tree.getSimpleName().toString();
      // what stands outside methods is first values, which a constructor works
      method = type + ".<init>";
      super.visitClass(tree, none);
      type = outerType;
      method = outerMethod;
      return null;
    }

    @Override public Void visitMethod(MethodTree tree, Void none) {
      String outer = method;
      method = type + "." + tree.getName();
      calls.computeIfAbsent(method, name -> new LinkedHashSet<>());
      super.visitMethod(tree, none);
      method = outer;
      return null;
    }

    @Override public Void visitMethodInvocation(MethodInvocationTree tree, Void none) {
      called(tree);
      return super.visitMethodInvocation(tree, none);
    }

    @Override public Void visitNewClass(NewClassTree tree, Void none) {
      called(tree);
      return super.visitNewClass(tree, none);
    }

    private void called(Tree tree) {
      Element to = trees.getElement(getCurrentPath());
      TypeElement of = (TypeElement) to.getEnclosingElement();
      Element outermost = of;
      while (outermost.getEnclosingElement().getKind() != ElementKind.PACKAGE) outermost = outermost.getEnclosingElement();
      String name = of.getSimpleName() + "." + to.getSimpleName();
      if (outermost.getSimpleName().contentEquals("SwornLists")) calls.computeIfAbsent(method, from -> new LinkedHashSet<>()).add(name);
      else ofTheLibrary.add(name);
    }
  }
}
