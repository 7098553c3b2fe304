import java.io.IOException;
import java.lang.reflect.Constructor;
import java.lang.reflect.Field;
import java.lang.reflect.Method;
import java.lang.reflect.Modifier;
import java.nio.file.Files;
import java.nio.file.Path;
import java.util.ArrayList;
import java.util.Arrays;
import java.util.List;
import java.util.Set;
import java.util.TreeSet;
import java.util.regex.Matcher;
import java.util.regex.Pattern;

/** The face of the document, and what can be seen of the rules of LANGUAGE.md in the source and the class files. */
public final class LanguageTest {
  private static final Checks c = new Checks();

  private static final String FACE = """
      int clear()
      int append(char) IllegalArgumentException UnsupportedOperationException
      int addRule(int,int,int) IndexOutOfBoundsException IllegalArgumentException IllegalStateException
      int removeRule(int) IndexOutOfBoundsException
      int setPriority(int,int) IndexOutOfBoundsException IllegalArgumentException
      int setContext(int,int) IndexOutOfBoundsException IllegalArgumentException
      int setMode(int) IllegalArgumentException
      int setThreshold(int) IllegalArgumentException
      int rule(int,int) IndexOutOfBoundsException IllegalArgumentException
      char letter(int,boolean,int) IndexOutOfBoundsException NoSuchElementException
      int count(int) IllegalArgumentException
      int collision(int,boolean) NoSuchElementException
      int order(int) NoSuchElementException
      int shadow(int,boolean) IndexOutOfBoundsException
      int letterCount(char,boolean) IllegalArgumentException
      int saving(int) IllegalArgumentException
      int learn() IllegalArgumentException
      int pair(int,int) IndexOutOfBoundsException IllegalArgumentException
      int abbreviate() IllegalArgumentException
      int expand() IllegalArgumentException
      int errorPosition() NoSuchElementException
      char output(int) IllegalStateException IndexOutOfBoundsException
      int takeBack() IllegalStateException UnsupportedOperationException
      int word(int,int) IllegalStateException IndexOutOfBoundsException IllegalArgumentException
      int result(int) IllegalStateException IllegalArgumentException
      int firstLost() IllegalArgumentException
      double share() IllegalStateException
      float meanPriority() IllegalStateException ArithmeticException
      int storeLengths(int,boolean) IndexOutOfBoundsException IllegalStateException
      boolean copyLengths(int,int) IndexOutOfBoundsException NoSuchElementException \
      UnsupportedOperationException IllegalArgumentException
      int storedBits(int,int) IndexOutOfBoundsException NoSuchElementException
      int undo() IllegalStateException
      boolean isReplayed()
      int snapshot()
      int restore() IllegalStateException
      """;

  private static final String[] FORBIDDEN = {
    "->", "::", "\\binstanceof\\b", "\\bsynchronized\\b", "\\bassert\\b", "\\bfinally\\b", "\\btry\\b", "\\bcatch\\b",
    "\\bFloat\\.", "\\bDouble\\.", "\\bCharacter\\.", "\\bSystem\\.(?!arraycopy\\b)", "Exact\\(", "\\bvar\\b",
    "\\bObject\\b", "\\bhashCode\\b", "\\btoString\\b", "\\bequals\\(", "getClass", "\\bnew \\w+Exception\\((?!\\))",
    "\\bextends\\b", "\\bMap\\b", "\\bSet\\b", "\\bstatic \\{", "\\bpackage\\b", "\\bString\\[",
  };

  private static final String LIBRARY = "java\\.lang\\.Object\\.Object\\(\\)|java\\.lang\\.System\\.arraycopy\\(.*\\)"
      + "|java\\.lang\\.Math\\.(min|max)\\(int,int\\)|java\\.(lang|util)\\.(?<name>\\w+Exception)\\.\\k<name>\\(\\)";

  public static void main(String[] args) throws IOException {
    String path = args.length > 0 ? args[0] : "src/main/java/AbbreviationDesk.java";
    String source = Files.readString(Path.of(path));
    face();
    classes();
    words(source);
    methodLengths(source);
    calls(new CallGraph(Path.of(path)));
    c.end();
  }

  private static void face() {
    c.part("face");
    Set<String> due = new TreeSet<>(Arrays.asList(FACE.split("\n")));
    Set<String> got = new TreeSet<>();
    for (Method method : AbbreviationDesk.class.getDeclaredMethods()) {
      if (Modifier.isPrivate(method.getModifiers())) {
        continue;
      }
      c.due("is public: " + method, Modifier.isPublic(method.getModifiers()), true);
      got.add(signature(method));
    }
    c.due("methods", got, due);
    c.due("is final", Modifier.isFinal(AbbreviationDesk.class.getModifiers()), true);
    Constructor<?>[] constructors = AbbreviationDesk.class.getDeclaredConstructors();
    c.due("constructors", constructors.length, 1);
    c.due("constructor", constructors[0].toString(), "public AbbreviationDesk()");
  }

  private static String signature(Method method) {
    StringBuilder text = new StringBuilder(method.getReturnType() + " " + method.getName() + "(");
    List<String> parameters = new ArrayList<>();
    for (Class<?> type : method.getParameterTypes()) {
      parameters.add(type.toString());
    }
    text.append(String.join(",", parameters)).append(")");
    for (Class<?> type : method.getExceptionTypes()) {
      text.append(' ').append(type.getSimpleName());
    }
    return text.toString();
  }

  private static void classes() {
    c.part("classes");
    Set<String> open = new TreeSet<>();
    for (String line : FACE.split("\n")) {
      open.add(line.replaceAll("^\\w+ (\\w+)\\(.*$", "$1"));
    }
    List<Class<?>> all = new ArrayList<>(List.of(AbbreviationDesk.class.getDeclaredClasses()));
    c.due("at most twelve", all.size() + 1 <= 12, true);
    all.forEach(one -> c.due(one + " is static", Modifier.isStatic(one.getModifiers()), true));
    all.add(AbbreviationDesk.class);
    for (Class<?> one : all) {
      int fields = 0;
      for (Field field : one.getDeclaredFields()) {
        boolean isStatic = Modifier.isStatic(field.getModifiers());
        fields += isStatic ? 0 : 1;
        c.due(field + " is private", Modifier.isPrivate(field.getModifiers()), true);
        c.due(field + " is no changing static", !isStatic || Modifier.isFinal(field.getModifiers()), true);
      }
      c.due(one + " has at most twenty fields", fields <= 20, true);
      for (Method method : one.getDeclaredMethods()) {
        boolean isOpen = Modifier.isPublic(method.getModifiers());
        c.due(method + " has no name of the face", isOpen || !open.contains(method.getName()), true);
        c.due(method + " has at most seven parameters", method.getParameterCount() <= 7, true);
      }
    }
  }

  private static void words(String source) {
    c.part("words");
    String code = source.replaceAll("(?s)/\\*.*?\\*/", "").replaceAll("//[^\n]*", "");
    for (String word : FORBIDDEN) {
      Matcher matcher = Pattern.compile(word).matcher(code);
      c.due(word, matcher.find() ? matcher.group() : "", "");
    }
    for (char sign : source.toCharArray()) {
      if (sign > 126) {
        c.due("sign " + (int) sign, "stands there", "does not");
      }
    }
    Matcher imports = Pattern.compile("import ([^;]*);").matcher(code);
    while (imports.find()) {
      c.due("import", imports.group(1), "java.util.NoSuchElementException");
    }
  }

  private static void calls(CallGraph graph) {
    c.part("calls");
    c.due("methods are found", graph.methods().size() > 36, true);
    for (String method : graph.methods()) {
      c.due(method + " goes at most eight calls deep, without recursion", graph.depth(method) <= 8, true);
    }
    for (String called : graph.library()) {
      c.due(called, called.matches(LIBRARY) ? "in the library" : "not in the library", "in the library");
    }
  }

  /** A method or class ends where a brace stands under its first letter. */
  private static void methodLengths(String source) {
    c.part("lengths");
    String[] lines = source.split("\n");
    for (int line = 0; line < lines.length; line++) {
      Matcher head = Pattern.compile("^( +)\\S.*\\b(\\w+)\\(.*").matcher(lines[line]);
      if (head.matches() && head.group(1).length() <= 4 && !lines[line].endsWith(";")) {
        int end = line;
        while (end < lines.length && !lines[end].equals(head.group(1) + "}")) {
          end++;
        }
        c.due(head.group(2) + " is short", end - line < 60, true);
      }
    }
  }
}
