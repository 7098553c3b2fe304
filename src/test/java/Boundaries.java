import java.util.ArrayList;
import java.util.HashSet;
import java.util.LinkedHashMap;
import java.util.List;
import java.util.Map;
import java.util.Set;
import java.util.concurrent.Callable;
import java.util.function.Supplier;

/** Tests that each name a section and a sentence of the document, and which sentences they name. */
final class Boundaries {
  static final String IOOBE = "IndexOutOfBoundsException";
  static final String IAE = "IllegalArgumentException";
  static final String ISE = "IllegalStateException";
  static final String NSE = "NoSuchElementException";
  static final String UOE = "UnsupportedOperationException";
  static final String ARITHMETIC = "ArithmeticException";

  /** Numbers that are far from any limit of the document. */
  static final int[] FAR = {Integer.MIN_VALUE, Integer.MIN_VALUE + 1, -65536, -256, 256, 65536, Integer.MAX_VALUE};

  private final Checks c = new Checks();
  private final Document document;
  private final Map<String, List<String>> named = new LinkedHashMap<>();

  Boundaries(Document document) {
    this.document = document;
  }

  /** A test of one sentence, or of a part of it, as it stands in a section of the document. */
  void at(String section, String sentence, Runnable test) {
    c.part(section + ", \"" + sentence + "\"");
    c.due("the document says it", document.says(section, sentence), true);
    named.computeIfAbsent(section, name -> new ArrayList<>()).add(sentence);
    int before = c.checked();
    try {
      test.run();
    } catch (RuntimeException e) {
      c.due("the test runs to its end", e, "no exception");
    }
    c.due("the test checks something", c.checked() > before, true);
  }

  void due(String what, Object got, Object want) {
    c.due(what, got, want);
  }

  void due(String what, Callable<?> call, Object want) {
    c.due(what, call, want);
  }

  /** A call that throws, and leaves all as it was. */
  void refused(String what, Supplier<AbbreviationDesk> made, Call call, String exception) {
    AbbreviationDesk desk = made.get();
    c.due(what, () -> call.on(desk), exception);
    c.due(what + " leaves all as it was", Looks.after(made, call), Looks.after(made, untouched -> null));
  }

  /** A call that throws, empties the buffer, and leaves all else as it was. */
  void refusedAndEmptied(String what, Supplier<AbbreviationDesk> made, Call call, String exception) {
    AbbreviationDesk desk = made.get();
    c.due(what, () -> call.on(desk), exception);
    Map<String, Object> want = Looks.after(made, untouched -> null);
    want.put("buffer", Looks.buffer(new AbbreviationDesk()));
    c.due(what + " empties the buffer alone", Looks.after(made, call), want);
  }

  /** A call that finds a text malformed, keeps the error position, and leaves all else, but perhaps the buffer. */
  void malformed(String text, Call call, int position, boolean isEmptied) {
    Supplier<AbbreviationDesk> made = () -> Desks.busyWith(text);
    AbbreviationDesk desk = made.get();
    c.due("'" + text + "'", () -> call.on(desk), IAE);
    Map<String, Object> want = Looks.after(made, untouched -> null);
    want.put("error position", position);
    if (isEmptied) {
      want.put("buffer", Looks.buffer(new AbbreviationDesk()));
    }
    c.due("what is left after '" + text + "'", Looks.after(made, call), want);
  }

  /** How a new desk reads a text: -1 if it is right, otherwise the error position that is kept. */
  void read(String text, Call call, int position) {
    AbbreviationDesk desk = Desks.withBuffer(text);
    Object answer = Checks.answer(() -> call.on(desk));
    if (position < 0) {
      c.due("'" + text + "' is right", answer instanceof Integer, true);
      c.due("position of '" + text + "'", () -> desk.errorPosition(), NSE);
    } else {
      c.due("'" + text + "'", answer, IAE);
      c.due("position of '" + text + "'", () -> desk.errorPosition(), position);
    }
  }

  void readRule(String text, int position) {
    read(text, desk -> desk.addRule(0, 0, 0), position);
  }

  /** Each clause of the document is named by a test, but those that are said to name no boundary. */
  void covered(Set<String> withoutBoundary) {
    c.part("coverage");
    Set<String> left = new HashSet<>(withoutBoundary);
    for (String section : document.sections()) {
      List<String> sentences = named.getOrDefault(section, List.of());
      for (String clause : document.clausesOf(section)) {
        left.remove(clause);
        boolean isNamed = sentences.stream().anyMatch(one -> clause.contains(one) || one.contains(clause));
        c.due(section + ", \"" + clause + "\" is tested", isNamed || withoutBoundary.contains(clause), true);
      }
    }
    c.due("clauses that the document does not have", left, Set.of());
  }

  void end() {
    System.out.println(named.values().stream().mapToInt(List::size).sum() + " sentences");
    c.end();
  }
}
