import java.io.IOException;
import java.nio.file.Files;
import java.nio.file.Path;
import java.util.ArrayList;
import java.util.LinkedHashMap;
import java.util.List;
import java.util.Map;
import java.util.Set;

/** The document's sections, and the clauses of each. */
final class Document {
  // The face is told again by each promise, and the last section promises nothing.
  private static final Set<String> LEFT_OUT = Set.of("The public face", "Not promised");

  private final Map<String, String> texts = new LinkedHashMap<>();
  private final Map<String, List<String>> clauses = new LinkedHashMap<>();

  Document(Path path) throws IOException {
    for (String section : Files.readString(path).split("(?m)^## ")) {
      String heading = section.split("\n", 2)[0];
      if (!heading.startsWith("#") && !LEFT_OUT.contains(heading)) {
        read(heading.split(":")[0], section.substring(heading.length()));
      }
    }
  }

  private void read(String name, String body) {
    texts.put(name, oneLine(body));
    List<String> all = new ArrayList<>();
    for (String paragraph : body.split("\\n\\s*\\n|\\n(?=- )")) {
      String text = oneLine(paragraph);
      boolean isSignature = text.startsWith("`") || text.startsWith("----");
      for (String clause : text.split("(?<=[.;]) ")) {
        if (!isSignature && !clause.isEmpty()) {
          all.add(clause);
        }
      }
    }
    clauses.put(name, all);
  }

  private static String oneLine(String text) {
    return text.strip().replaceAll("\\s+", " ");
  }

  Set<String> sections() {
    return clauses.keySet();
  }

  List<String> clausesOf(String section) {
    return clauses.get(section);
  }

  boolean says(String section, String sentence) {
    return texts.getOrDefault(section, "").contains(sentence);
  }
}
