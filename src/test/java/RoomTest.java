import java.lang.management.ManagementFactory;
import java.util.function.IntConsumer;

/** What the dearest runs of 512 calls allocate stays far below the room that LANGUAGE.md leaves to a run. */
public final class RoomTest {
  private static final int CALLS = 512;
  private static final long MOST_BYTES = 600_000;
  private static final Checks c = new Checks();

  public static void main(String[] args) {
    AbbreviationDesk[] desk = new AbbreviationDesk[1];
    measure("firstLost", desk, call -> desk[0].firstLost());
    measure("abbreviate and takeBack", desk, call -> {
      if (call % 2 == 0) {
        desk[0].abbreviate();
      } else {
        desk[0].takeBack();
      }
    });
    measure("commands and isReplayed", desk, call -> {
      if (call % 2 == 0) {
        desk[0].setPriority(call % 24, call % 100);
      } else {
        desk[0].isReplayed();
      }
    });
    measure("snapshot and restore", desk, call -> {
      if (call % 2 == 0) {
        desk[0].snapshot();
      } else {
        desk[0].restore();
      }
    });
    c.end();
  }

  private static void measure(String what, AbbreviationDesk[] desk, IntConsumer calls) {
    c.part(what);
    for (int round = 0; round < 2; round++) {
      long before = allocated();
      desk[0] = new AbbreviationDesk();
      fill(desk[0]);
      for (int call = 0; call < CALLS; call++) {
        calls.accept(call);
      }
      long bytes = allocated() - before;
      // The first round loads classes, which is no part of what a run makes.
      if (round == 1) {
        c.due(what + " made " + bytes + " bytes, is little", bytes <= MOST_BYTES, true);
      }
    }
  }

  private static void fill(AbbreviationDesk desk) {
    for (int rule = 0; rule < 24; rule++) {
      Checks.add(desk, 1 + rule % 2, (char) ('a' + rule) + "=" + (char) ('a' + rule) + "aaaaaaaaaaa", rule, 0);
    }
    desk.setMode(0);
    Checks.type(desk, "a b c d e f g h i j k l m n o p q r s t u v w x y z aa bb cc dd ee ff gg hh ii");
  }

  private static long allocated() {
    if (ManagementFactory.getThreadMXBean() instanceof com.sun.management.ThreadMXBean threads) {
      return threads.getThreadAllocatedBytes(Thread.currentThread().getId());
    }
    return 0;
  }
}
