import java.io.IOException;
import java.net.URL;
import java.net.URLClassLoader;
import java.nio.file.Files;
import java.nio.file.Path;
import java.util.ArrayList;
import java.util.List;
import java.util.regex.Matcher;
import java.util.regex.Pattern;
import java.util.stream.Stream;
import javax.tools.ToolProvider;

/** The examples of README.md are compiled and run, and answer what stands behind them. */
public final class ReadmeTest {
  private static final Pattern BLOCK = Pattern.compile("(?s)```java\n(.*?)```");
  private static final Pattern ANSWER = Pattern.compile("(?m)^(\\w.*); +// ([^:\n]+)(:.*)?$");
  private static final Checks c = new Checks();

  public static void main(String[] args) throws Exception {
    c.part("README.md");
    String readme = Files.readString(Path.of("README.md"));
    namesAllCalls(readme);
    List<String> blocks = new ArrayList<>();
    Matcher block = BLOCK.matcher(readme);
    while (block.find()) {
      blocks.add(block.group(1));
    }
    c.due("examples", blocks.size(), 3);
    Path folder = Files.createTempDirectory("readme");
    try {
      run(folder, exampleOf(blocks));
    } finally {
      delete(folder);
    }
    c.end();
  }

  private static void namesAllCalls(String readme) {
    for (var method : AbbreviationDesk.class.getMethods()) {
      if (method.getDeclaringClass() == AbbreviationDesk.class) {
        c.due("names " + method.getName(), readme.contains("`" + method.getName() + "`"), true);
      }
    }
  }

  /** A class with the methods of the first block, which lists each answer and what is due in the others. */
  private static String exampleOf(List<String> blocks) {
    StringBuilder source = new StringBuilder("public final class Example {\n" + blocks.get(0));
    source.append("public static void run(java.util.List<Object[]> answers) {\n");
    for (String block : blocks.subList(1, blocks.size())) {
      source.append(ANSWER.matcher(block).replaceAll(
          "answers.add(new Object[] {\"$1\", String.valueOf($1), \"$2\"});"));
    }
    return source.append("}\n}\n").toString();
  }

  private static void run(Path folder, String source) throws Exception {
    Path file = Files.writeString(folder.resolve("Example.java"), source);
    int failed = ToolProvider.getSystemJavaCompiler().run(null, null, null, "-d", folder.toString(), "-cp",
        System.getProperty("java.class.path"), file.toString());
    c.due("compiling the examples", failed, 0);
    if (failed != 0) {
      return;
    }
    List<Object[]> answers = new ArrayList<>();
    try (URLClassLoader loader = new URLClassLoader(new URL[] {folder.toUri().toURL()})) {
      loader.loadClass("Example").getMethod("run", List.class).invoke(null, answers);
    }
    c.due("answers are found", answers.size() > 20, true);
    for (Object[] answer : answers) {
      c.due((String) answer[0], answer[1], answer[2]);
    }
  }

  private static void delete(Path folder) throws IOException {
    List<Path> files;
    try (Stream<Path> all = Files.list(folder)) {
      files = all.toList();
    }
    for (Path file : files) {
      Files.delete(file);
    }
    Files.delete(folder);
  }
}
