import com.sun.source.tree.CompilationUnitTree;
import com.sun.source.tree.MethodInvocationTree;
import com.sun.source.tree.MethodTree;
import com.sun.source.tree.NewClassTree;
import com.sun.source.util.JavacTask;
import com.sun.source.util.TreePathScanner;
import com.sun.source.util.Trees;
import java.io.IOException;
import java.nio.file.Path;
import java.util.ArrayList;
import java.util.LinkedHashMap;
import java.util.List;
import java.util.Map;
import java.util.Set;
import java.util.TreeSet;
import javax.lang.model.element.Element;
import javax.lang.model.element.ExecutableElement;
import javax.tools.JavaCompiler;
import javax.tools.StandardJavaFileManager;
import javax.tools.ToolProvider;

/** Which method of a source calls which, as the compiler sees it. */
final class CallGraph {
  private final Map<String, Set<String>> calls = new LinkedHashMap<>();
  private final Set<String> library = new TreeSet<>();
  private Trees trees;

  CallGraph(Path source) throws IOException {
    JavaCompiler compiler = ToolProvider.getSystemJavaCompiler();
    try (StandardJavaFileManager files = compiler.getStandardFileManager(null, null, null)) {
      if (compiler.getTask(null, files, null, List.of("-proc:none"), null, files.getJavaFileObjects(source))
          instanceof JavacTask task) {
        trees = Trees.instance(task);
        List<CompilationUnitTree> units = new ArrayList<>();
        task.parse().forEach(units::add);
        task.analyze();
        units.forEach(unit -> new Reader().scan(unit, null));
      }
    }
    calls.values().forEach(called -> called.retainAll(calls.keySet()));
  }

  private static String nameOf(Element method) {
    return method.getEnclosingElement() + "." + method;
  }

  private final class Reader extends TreePathScanner<Void, String> {
    @Override
    public Void visitMethod(MethodTree tree, String outer) {
      String name = nameOf(trees.getElement(getCurrentPath()));
      calls.computeIfAbsent(name, none -> new TreeSet<>());
      return super.visitMethod(tree, name);
    }

    @Override
    public Void visitMethodInvocation(MethodInvocationTree tree, String method) {
      note(method);
      return super.visitMethodInvocation(tree, method);
    }

    @Override
    public Void visitNewClass(NewClassTree tree, String method) {
      note(method);
      return super.visitNewClass(tree, method);
    }

    private void note(String method) {
      if (trees.getElement(getCurrentPath()) instanceof ExecutableElement called) {
        if (called.getEnclosingElement().toString().startsWith("java.")) {
          library.add(nameOf(called));
        } else if (method != null) {
          calls.get(method).add(nameOf(called));
        }
      }
    }
  }

  Set<String> methods() {
    return calls.keySet();
  }

  /** The methods and constructors of the library that are called anywhere. */
  Set<String> library() {
    return library;
  }

  /** How many calls stand open at once below and with a method; a method that comes back to itself counts 1000. */
  int depth(String method) {
    return depth(method, List.of());
  }

  private int depth(String method, List<String> open) {
    if (open.contains(method)) {
      return 1000;
    }
    List<String> here = new ArrayList<>(open);
    here.add(method);
    int deepest = 0;
    for (String called : calls.get(method)) {
      deepest = Math.max(deepest, depth(called, here));
    }
    return 1 + deepest;
  }
}
