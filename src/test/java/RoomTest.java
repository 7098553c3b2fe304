import java.lang.management.ManagementFactory;
import java.util.function.IntConsumer;

/** What the dearest runs of 512 calls allocate stays far below the room that LANGUAGE.md leaves to a run. */
public final class RoomTest {
  private static final int CALLS = 512;
  private static final long MOST_BYTES = 600_000;
  private static final Checks c = new Checks();

  public static void main(String[] args) {
    AbbreviationDesk[] desk = new AbbreviationDesk[1];
    measure("firstLost", desk, call -> desk[0].firstLost());
    measure("abbreviate and takeBack", desk, call -> {
      if (call % 2 == 0) {
        desk[0].abbreviate();
      } else {
        desk[0].takeBack();
      }
    });
    measure("commands and isReplayed", desk, call -> {
      if (call % 2 == 0) {
        desk[0].setPriority(call % 24, call % 100);
      } else {
        desk[0].isReplayed();
      }
    });
    measure("snapshot and restore", desk, call -> {
      if (call % 2 == 0) {
        desk[0].snapshot();
      } else {
        desk[0].restore();
      }
    });
    c.end();
  }

  private static void measure(String what, AbbreviationDesk[] desk, IntConsumer calls) {
    c.part(what);
    for (int round = 0; round < 2; round++) {
      long before = allocated();
      desk[0] = new AbbreviationDesk();
      int filling = fill(desk[0]);
      for (int call = 0; call < CALLS - filling; call++) {
        calls.accept(call);
      }
      long bytes = allocated() - before;
      // The first round loads classes, which is no part of what a run makes.
      if (round == 1) {
        c.due(what + " made " + bytes + " bytes, is little", bytes <= MOST_BYTES, true);
      }
    }
  }

  /** Makes 24 rules and a text with long words for them; the number of calls that it took. */
  private static int fill(AbbreviationDesk desk) {
    int calls = 0;
    for (int rule = 0; rule < 24; rule++) {
      String text = (char) ('a' + rule) + "=" + (char) ('a' + rule) + "aa";
      Checks.add(desk, 1 + rule % 2, text, rule, 0);
      calls += text.length() + 1;
    }
    String text = "a b c d e f g h i j k l m n o p q r s t u v w x y z aa bb cc dd ee ff gg hh ii";
    desk.setMode(0);
    Checks.type(desk, text);
    return calls + 1 + text.length();
  }

  private static long allocated() {
    if (ManagementFactory.getThreadMXBean() instanceof com.sun.management.ThreadMXBean threads) {
      return threads.getThreadAllocatedBytes(Thread.currentThread().getId());
    }
    return 0;
  }
}
