import java.util.LinkedHashMap;
import java.util.Map;
import java.util.function.Supplier;

/** All that the face tells of a desk, each part on a desk of its own, since reading some of them changes it. */
final class Looks {
  static Map<String, Object> after(Supplier<AbbreviationDesk> made, Call call) {
    Map<String, Object> looks = new LinkedHashMap<>();
    looks.put("rules", rules(made(made, call)));
    looks.put("numbers", numbers(made(made, call)));
    looks.put("buffer", buffer(made(made, call)));
    looks.put("error position", Checks.answer(() -> made(made, call).errorPosition()));
    looks.put("result", result(made(made, call)));
    looks.put("row 0", row(made(made, call), 0));
    looks.put("row 1", row(made(made, call), 1));
    looks.put("undone", undone(made(made, call)));
    looks.put("snapshot", snapshot(made(made, call)));
    return looks;
  }

  private static AbbreviationDesk made(Supplier<AbbreviationDesk> made, Call call) {
    AbbreviationDesk desk = made.get();
    Checks.answer(() -> call.on(desk));
    return desk;
  }

  private static Object rules(AbbreviationDesk desk) {
    return Checks.state(desk) + " replayed " + desk.isReplayed();
  }

  /** The collisions, the commands that can be undone, and the commands. */
  private static Object numbers(AbbreviationDesk desk) {
    return desk.count(4) + " " + desk.count(6) + " " + desk.count(7);
  }

  /** The characters in the buffer, as far as they are a text; without rules, expanding takes but marks away. */
  static Object buffer(AbbreviationDesk desk) {
    desk.clear();
    int size = desk.count(5);
    Object answer = Checks.answer(() -> desk.expand());
    return size + ": " + (answer instanceof Integer ? Checks.output(desk) + " " + Checks.words(desk)
        : answer + " at " + desk.errorPosition());
  }

  private static Object result(AbbreviationDesk desk) {
    if (!(Checks.answer(() -> desk.result(0)) instanceof Integer)) {
      return "none";
    }
    return Checks.output(desk) + " " + Checks.words(desk) + " of " + desk.result(2) + ", uses " + desk.result(3)
        + ", marked " + desk.result(4) + ", abbreviated " + desk.result(5) + ", share " + desk.share() + ", priority "
        + Checks.answer(() -> desk.meanPriority());
  }

  private static Object row(AbbreviationDesk desk, int row) {
    StringBuilder all = new StringBuilder();
    for (int index = 0; index < 50; index++) {
      int at = index;
      Object bits = Checks.answer(() -> desk.storedBits(row, at));
      if (!(bits instanceof Integer)) {
        break;
      }
      all.append(Float.intBitsToFloat((Integer) bits)).append(' ');
    }
    return all.append(Checks.answer(() -> desk.copyLengths(row, 0))).toString();
  }

  private static Object undone(AbbreviationDesk desk) {
    StringBuilder all = new StringBuilder();
    for (int times = 0; times < 9; times++) {
      all.append(Checks.answer(() -> desk.undo())).append(':');
      for (int what : new int[] {0, 1, 2, 3, 7}) {
        all.append(' ').append(desk.count(what));
      }
      all.append("; ");
    }
    return all.append(Checks.state(desk)).toString();
  }

  private static Object snapshot(AbbreviationDesk desk) {
    return Checks.answer(() -> desk.restore()) + " " + Checks.state(desk) + " " + desk.count(7);
  }

  private Looks() {
  }
}
