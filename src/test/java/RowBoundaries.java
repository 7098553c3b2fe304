import java.util.Map;
import java.util.function.Supplier;

/** The boundaries of the promises about rows, undo, replay and snapshot, 30 to 36, sentence by sentence. */
final class RowBoundaries {
  private static final String NO_ROW = "Throws `IndexOutOfBoundsException` if there is no such row";
  private static final int[] NO_ROWS = {-1, 2, Integer.MIN_VALUE, Integer.MAX_VALUE};
  private final Boundaries b;

  RowBoundaries(Boundaries boundaries) {
    b = boundaries;
  }

  void run() {
    storeLengths();
    storeLengthsRefused();
    copyLengths();
    copyLengthsRefused();
    storedBits();
    undo();
    undoRefused();
    isReplayed();
    snapshot();
    restore();
  }

  private static AbbreviationDesk withResult(int words) {
    AbbreviationDesk desk = new AbbreviationDesk();
    Checks.type(desk, Desks.times(words, "b", " "));
    desk.abbreviate();
    return desk;
  }

  /** Two rows of whole lengths, some of them 1 and 2. */
  private static AbbreviationDesk withRows(String first, String second) {
    AbbreviationDesk desk = new AbbreviationDesk();
    Checks.type(desk, first);
    desk.abbreviate();
    desk.storeLengths(0, true);
    Checks.type(desk, second);
    desk.abbreviate();
    desk.storeLengths(1, true);
    return desk;
  }

  private static String row(AbbreviationDesk desk, int row) {
    StringBuilder all = new StringBuilder();
    for (int index = 0; index < 50; index++) {
      int at = index;
      if (Checks.answer(() -> desk.storedBits(row, at)) instanceof Integer bits) {
        all.append(Float.intBitsToFloat(bits)).append(' ');
      }
    }
    return all.toString().trim();
  }

  private void storeLengths() {
    b.at("Promise 30", "Stores the lengths of the words of the result, without apostrophes, as a new row with one"
        + " element for each word.", () -> {
      for (int words : new int[] {1, 2, 49, 50}) {
        AbbreviationDesk desk = withResult(words);
        b.due("elements", desk.storeLengths(1, true), words);
        b.due("the last of " + words, desk.storedBits(1, words - 1), Float.floatToIntBits(1f));
        b.due("one more than " + words, () -> desk.storedBits(1, words), Boundaries.NSE);
      }
      AbbreviationDesk desk = new AbbreviationDesk();
      Checks.add(desk, 0, "b=cc", 0, 0);
      Checks.abbreviated(desk, "b cc bb " + Desks.letters(24));
      desk.storeLengths(0, true);
      b.due("a marked word and others", row(desk, 0), "1.0 1.0 2.0 24.0");
      Checks.expanded(desk, "'b b");
      desk.storeLengths(0, true);
      b.due("a shorter row in its place", row(desk, 0), "1.0 2.0");
    });
    b.at("Promise 30", "Returns the number of elements.", () -> {
      for (int words : new int[] {1, 2, 49, 50}) {
        b.due("ints", withResult(words).storeLengths(0, true), words);
        b.due("floats", withResult(words).storeLengths(0, false), words);
      }
    });
    b.at("Promise 30", "- `row`: the row, 0 or 1", () -> {
      for (int row = 0; row <= 1; row++) {
        AbbreviationDesk desk = withResult(3);
        b.due("row " + row, desk.storeLengths(row, true), 3);
        int other = 1 - row;
        b.due("is stored", row(desk, row), "1.0 1.0 1.0");
        b.due("the other is not", () -> desk.storedBits(other, 0), Boundaries.NSE);
      }
    });
    b.at("Promise 30", "- `exact`: true for a row of ints with the lengths; false for a row of floats with the"
        + " lengths divided by the lengths of the words that were given, both converted to float", () -> {
      AbbreviationDesk desk = new AbbreviationDesk();
      Checks.add(desk, 0, "b=" + Desks.letters(12), 0, 0);
      Checks.add(desk, 1, "u=" + Desks.letters(12), 0, 0);
      Checks.add(desk, 2, "v=" + Desks.letters(12), 0, 0);
      Checks.abbreviated(desk, Desks.letters(12) + " b c");
      desk.storeLengths(0, false);
      desk.storeLengths(1, true);
      b.due("shares of short forms", row(desk, 0), 1f / 12f + " 1.0 1.0");
      b.due("lengths of short forms", row(desk, 1), "1.0 1.0 1.0");
      Checks.expanded(desk, "b 'b u" + Desks.letters(22) + "v");
      desk.storeLengths(0, false);
      desk.storeLengths(1, true);
      b.due("shares of long forms", row(desk, 0), "12.0 1.0 " + 46f / 24f);
      b.due("lengths of long forms", row(desk, 1), "12.0 1.0 46.0");
    });
  }

  private void storeLengthsRefused() {
    b.at("Promise 30", NO_ROW, () -> {
      for (int row : NO_ROWS) {
        b.refused("row " + row, Desks::busy, desk -> desk.storeLengths(row, true), Boundaries.IOOBE);
        b.refused("row " + row + ", new", AbbreviationDesk::new, desk -> desk.storeLengths(row, false),
            Boundaries.IOOBE);
      }
    });
    b.at("Promise 30", "Throws `IllegalStateException` if there is no result", () -> {
      for (int row = 0; row <= 1; row++) {
        int at = row;
        b.refused("row " + row, AbbreviationDesk::new, desk -> desk.storeLengths(at, true), Boundaries.ISE);
        b.refused("row " + row, () -> Desks.withRules(2), desk -> desk.storeLengths(at, false), Boundaries.ISE);
        b.due("with a result", withResult(1).storeLengths(row, false), 1);
      }
    });
  }

  private void copyLengths() {
    b.at("Promise 31", "Copies the elements of a row into the other row, from index 0 on.", () -> {
      String[] due = {"1.0 1.0 1.0", "2.0 1.0 1.0", "2.0 3.0 1.0", "2.0 3.0 4.0"};
      for (int count = 0; count <= 3; count++) {
        AbbreviationDesk desk = withRows("bb bbb bbbb", "b b b");
        desk.copyLengths(0, count);
        b.due("row 1, " + count, row(desk, 1), due[count]);
        b.due("row 0, " + count, row(desk, 0), "2.0 3.0 4.0");
        AbbreviationDesk back = withRows("b b b", "bb bbb bbbb");
        back.copyLengths(1, count);
        b.due("row 0 from row 1, " + count, row(back, 0), due[count]);
        b.due("row 1 as it was, " + count, row(back, 1), "2.0 3.0 4.0");
      }
      AbbreviationDesk fifty = withRows(Desks.times(33, "bb", " "), Desks.times(50, "b", " "));
      fifty.copyLengths(0, 33);
      b.due("33 of fifty", row(fifty, 1), Desks.times(33, "2.0", " ") + " " + Desks.times(17, "1.0", " "));
      AbbreviationDesk floats = new AbbreviationDesk();
      Checks.add(floats, 0, "b=cc", 0, 0);
      Checks.abbreviated(floats, "cc cc");
      floats.storeLengths(0, false);
      Checks.expanded(floats, "b b b");
      floats.storeLengths(1, false);
      floats.copyLengths(0, 2);
      b.due("floats", row(floats, 1), "0.5 0.5 2.0");
    });
    b.at("Promise 31", "- `from`: the row from which they are copied, 0 or 1", () -> {
      AbbreviationDesk desk = withRows("b", "bb");
      desk.copyLengths(0, 1);
      b.due("from 0", row(desk, 1), "1.0");
      AbbreviationDesk other = withRows("b", "bb");
      other.copyLengths(1, 1);
      b.due("from 1", row(other, 0), "2.0");
    });
    b.at("Promise 31", "Returns true if at least one element of the other row has changed.", () -> {
      String[] rows = {"bb b b", "b bb b", "b b bb", "b b b"};
      boolean[][] due = {{false, true, true, true}, {false, false, true, true}, {false, false, false, true}, {}};
      for (int row = 0; row < rows.length; row++) {
        for (int count = 0; count <= 3; count++) {
          AbbreviationDesk desk = withRows(rows[row], "b b b");
          b.due(rows[row] + ", " + count, desk.copyLengths(0, count), row < 3 && due[row][count]);
          b.due(rows[row] + ", " + count + " again", desk.copyLengths(0, count), false);
        }
      }
      AbbreviationDesk fifty = withRows(Desks.times(49, "b", " ") + " bb", Desks.times(50, "b", " "));
      b.due("49 of fifty", fifty.copyLengths(0, 49), false);
      b.due("all of fifty", fifty.copyLengths(0, 50), true);
    });
  }

  private void copyLengthsRefused() {
    b.at("Promise 31", NO_ROW, () -> {
      for (int row : NO_ROWS) {
        b.refused("row " + row, () -> withRows("b", "bb"), desk -> desk.copyLengths(row, 1), Boundaries.IOOBE);
        b.refused("row " + row + ", new", AbbreviationDesk::new, desk -> desk.copyLengths(row, 0), Boundaries.IOOBE);
      }
    });
    b.at("Promise 31", "Throws `NoSuchElementException` if one of the rows was not stored yet", () -> {
      for (int from = 0; from <= 1; from++) {
        int row = from;
        b.refused("neither, from " + from, () -> withResult(2), desk -> desk.copyLengths(row, 0), Boundaries.NSE);
        for (int only = 0; only <= 1; only++) {
          int stored = only;
          b.refused("only " + only + ", from " + from, () -> {
            AbbreviationDesk desk = withResult(2);
            desk.storeLengths(stored, true);
            return desk;
          }, desk -> desk.copyLengths(row, 1), Boundaries.NSE);
        }
      }
    });
    b.at("Promise 31", "Throws `UnsupportedOperationException` if the rows have different element types", () -> {
      for (int from = 0; from <= 1; from++) {
        int row = from;
        for (int count : new int[] {0, 1, 2}) {
          b.refused("ints and floats", () -> {
            AbbreviationDesk desk = withRows("b b", "b b");
            desk.storeLengths(1, false);
            return desk;
          }, desk -> desk.copyLengths(row, count), Boundaries.UOE);
          b.refused("floats and ints", () -> {
            AbbreviationDesk desk = withRows("b b", "b b");
            desk.storeLengths(0, false);
            return desk;
          }, desk -> desk.copyLengths(row, count), Boundaries.UOE);
        }
      }
      AbbreviationDesk floats = withRows("b b", "b b");
      floats.storeLengths(0, false);
      floats.storeLengths(1, false);
      b.due("floats both", floats.copyLengths(0, 2), false);
      floats.storeLengths(0, true);
      floats.storeLengths(1, true);
      b.due("ints both", floats.copyLengths(1, 2), false);
    });
    b.at("Promise 31", "Throws `IllegalArgumentException` if count is negative or greater than the length of one of"
        + " the rows", () -> {
      for (int from = 0; from <= 1; from++) {
        int row = from;
        for (int count : new int[] {-1, 3, 4, Integer.MIN_VALUE, Integer.MAX_VALUE}) {
          b.refused("count " + count + ", a longer second row", () -> withRows("b bb", "bb b b"),
              desk -> desk.copyLengths(row, count), Boundaries.IAE);
          b.refused("count " + count + ", a longer first row", () -> withRows("bb b b", "b bb"),
              desk -> desk.copyLengths(row, count), Boundaries.IAE);
        }
        for (int count = 0; count <= 2; count++) {
          b.due("count " + count, withRows("b bb", "bb b b").copyLengths(row, count), count > 0);
          b.due("count " + count, withRows("bb b b", "b bb").copyLengths(row, count), count > 0);
        }
      }
      String fifty = Desks.times(50, "b", " ");
      b.due("fifty", withRows(fifty, fifty).copyLengths(0, 50), false);
      b.due("51", () -> withRows(fifty, fifty).copyLengths(0, 51), Boundaries.IAE);
    });
  }

  private void storedBits() {
    b.at("Promise 32", "Returns the bits of an element of a row, converted to float, as by"
        + " Float.floatToIntBits.", () -> {
      AbbreviationDesk lengths = new AbbreviationDesk();
      for (int length = 1; length <= 24; length++) {
        Checks.type(lengths, Desks.letters(length));
        lengths.abbreviate();
        lengths.storeLengths(0, true);
        b.due("length " + length, lengths.storedBits(0, 0), Float.floatToIntBits((float) length));
      }
      for (int given = 2; given <= 24; given++) {
        AbbreviationDesk desk = new AbbreviationDesk();
        Checks.add(desk, 1, "b=" + Desks.letters(12), 0, 0);
        Checks.add(desk, 2, "z=" + Desks.letters(12), 0, 0);
        Checks.expanded(desk, "b" + Desks.times(given - 1, "z", ""));
        desk.storeLengths(0, false);
        desk.storeLengths(1, true);
        float made = given + 22;
        b.due("share of " + given, desk.storedBits(0, 0), Float.floatToIntBits(made / given));
        b.due("letters of " + given, desk.storedBits(1, 0), Float.floatToIntBits(made));
      }
      for (int from = 1; from <= 6; from++) {
        for (int to = from + 1; to <= 12; to++) {
          AbbreviationDesk desk = new AbbreviationDesk();
          Checks.add(desk, 0, "aeioua".substring(0, from) + "=" + Desks.letters(to), 0, 0);
          Checks.abbreviated(desk, Desks.letters(to));
          desk.storeLengths(1, false);
          b.due(from + " of " + to, desk.storedBits(1, 0), Float.floatToIntBits((float) from / (float) to));
        }
      }
    });
    b.at("Promise 32", "- `row`: the row, 0 or 1", () -> {
      AbbreviationDesk desk = withRows("b", "bb");
      b.due("row 0", desk.storedBits(0, 0), Float.floatToIntBits(1f));
      b.due("row 1", desk.storedBits(1, 0), Float.floatToIntBits(2f));
    });
    b.at("Promise 32", NO_ROW, () -> {
      for (int row : NO_ROWS) {
        b.refused("row " + row, Desks::busy, desk -> desk.storedBits(row, 0), Boundaries.IOOBE);
        b.refused("row " + row + ", new", AbbreviationDesk::new, desk -> desk.storedBits(row, 0), Boundaries.IOOBE);
      }
    });
    b.at("Promise 32", "Throws `NoSuchElementException` if the row was not stored yet, or has no such"
        + " element", () -> {
      for (int row = 0; row <= 1; row++) {
        int at = row;
        b.refused("row " + row + " not stored", () -> withResult(2), desk -> desk.storedBits(at, 0), Boundaries.NSE);
        for (int index : new int[] {-1, 3, 4, 50, Integer.MIN_VALUE, Integer.MAX_VALUE}) {
          b.refused("element " + index + " of row " + row, Desks::busy, desk -> desk.storedBits(at, index),
              Boundaries.NSE);
        }
        b.due("the last one", Desks.busy().storedBits(row, 2), Float.floatToIntBits(1f));
      }
      AbbreviationDesk fifty = withRows("b", Desks.times(50, "b", " "));
      b.due("the last of fifty", fifty.storedBits(1, 49), Float.floatToIntBits(1f));
      b.due("one more", () -> fifty.storedBits(1, 50), Boundaries.NSE);
      b.due("one more than one", () -> fifty.storedBits(0, 1), Boundaries.NSE);
    });
  }

  private void undo() {
    b.at("Promise 33", "the rules, pairs, mode, threshold and commands are as they were before it.", () -> {
      Call[] commands = {
        desk -> desk.addRule(0, 99, 4), desk -> desk.removeRule(0), desk -> desk.setPriority(0, 99),
        desk -> desk.setContext(0, 4), desk -> desk.setMode(1), desk -> desk.setThreshold(9), desk -> desk.learn(),
      };
      Map<String, Object> before = Looks.after(() -> Desks.busyWith("b=cc"), desk -> null);
      for (int command = 0; command < commands.length; command++) {
        Call call = commands[command];
        Map<String, Object> after = Looks.after(() -> Desks.busyWith("b=cc"), desk -> {
          call.on(desk);
          return desk.undo();
        });
        // Of all that is seen of a desk, the command may have emptied the buffer alone.
        b.due("all without command " + command, without("buffer", after), without("buffer", before));
      }
      AbbreviationDesk full = Desks.withRules(23);
      Checks.learn(full, "z=zzz");
      Checks.learn(full, "z=zzz");
      b.due("24 rules", full.count(0), 24);
      full.removeRule(0);
      b.due("undo of the removal", full.undo(), 7);
      b.due("24 rules again", full.count(0), 24);
      b.due("the last of them", full.rule(23, 1), 20);
      full.undo();
      b.due("without the learned one", full.count(0), 23);
      b.due("its pair", full.pair(0, 0), 1);
      full.undo();
      b.due("without the pair", full.count(1), 0);
    });
    b.at("Promise 33", "Returns the number of commands that can still be undone.", () -> {
      AbbreviationDesk desk = new AbbreviationDesk();
      for (int threshold = 1; threshold <= 9; threshold++) {
        desk.setThreshold(threshold);
      }
      for (int left = 7; left >= 0; left--) {
        b.due("of nine commands", desk.undo(), left);
        b.due("threshold", desk.count(3), left + 1);
      }
      b.due("the first one stays", () -> desk.undo(), Boundaries.ISE);
      b.due("its threshold", desk.count(3), 1);
    });
  }

  private void undoRefused() {
    b.at("Promise 33", "Throws `IllegalStateException` if there is none", () -> {
      b.refused("new", AbbreviationDesk::new, desk -> desk.undo(), Boundaries.ISE);
      b.refused("the one command is undone", () -> {
        AbbreviationDesk desk = Desks.withRules(1);
        desk.undo();
        return desk;
      }, desk -> desk.undo(), Boundaries.ISE);
      b.refused("eight of nine are undone", () -> {
        AbbreviationDesk desk = Desks.withRules(9);
        for (int times = 0; times < 8; times++) {
          desk.undo();
        }
        return desk;
      }, desk -> desk.undo(), Boundaries.ISE);
      b.refused("after clear", () -> {
        AbbreviationDesk desk = Desks.busy();
        desk.clear();
        return desk;
      }, desk -> desk.undo(), Boundaries.ISE);
      b.refused("after restore", () -> {
        AbbreviationDesk desk = Desks.busy();
        desk.restore();
        return desk;
      }, desk -> desk.undo(), Boundaries.ISE);
      b.refused("refused calls alone", () -> {
        AbbreviationDesk desk = new AbbreviationDesk();
        Checks.answer(() -> desk.setMode(2));
        Checks.answer(() -> desk.learn());
        return desk;
      }, desk -> desk.undo(), Boundaries.ISE);
    });
  }

  private void isReplayed() {
    b.at("Promise 34", "Carries out all commands once more, beginning with an object as clear leaves it, and compares"
        + " the rules, pairs, mode and threshold with the present ones.", () -> {
      b.due("no commands", new AbbreviationDesk().isReplayed(), true);
      b.due("24 rules", Desks.withRules(24).isReplayed(), true);
      b.due("30 pairs", Desks.withPairs(30).isReplayed(), true);
      AbbreviationDesk full = Desks.withPairs(30);
      full.setThreshold(1);
      Checks.learn(full, "x y=xxx yyy");
      b.due("a pair too many", full.isReplayed(), true);
      AbbreviationDesk many = new AbbreviationDesk();
      for (int command = 0; command < 400; command++) {
        many.setThreshold(command % 9 + 1);
      }
      b.due("400 commands", many.isReplayed(), true);
    });
    b.at("Promise 34", "Commands that were undone are left out; after a restore, the commands are those of the"
        + " snapshot and those after it.", () -> {
      AbbreviationDesk undone = Desks.withRules(9);
      for (int times = 0; times < 8; times++) {
        undone.undo();
        b.due("undone " + times, undone.isReplayed(), true);
      }
      undone.setMode(0);
      b.due("another command in place of the undone ones", undone.isReplayed(), true);
      AbbreviationDesk empty = new AbbreviationDesk();
      empty.snapshot();
      Checks.add(empty, 0, "t=the", 5, 0);
      empty.restore();
      b.due("an empty snapshot", empty.isReplayed(), true);
      AbbreviationDesk full = Desks.withRules(24);
      full.snapshot();
      full.clear();
      full.setMode(0);
      full.restore();
      b.due("24 rules from a snapshot", full.isReplayed(), true);
      full.removeRule(0);
      b.due("and a command after them", full.isReplayed(), true);
      b.due("commands", full.count(7), 25);
    });
    b.at("Promise 34", "The state stays as it is.", () -> {
      b.due("busy", Looks.after(Desks::busy, desk -> desk.isReplayed()), Looks.after(Desks::busy, desk -> null));
      b.due("new", Looks.after(AbbreviationDesk::new, desk -> desk.isReplayed()),
          Looks.after(AbbreviationDesk::new, desk -> null));
      b.due("full", Looks.after(() -> Desks.withRules(24), desk -> desk.isReplayed()),
          Looks.after(() -> Desks.withRules(24), desk -> null));
    });
  }

  private void snapshot() {
    b.at("Promise 35", "It replaces an earlier one.", () -> {
      AbbreviationDesk desk = Desks.withRules(24);
      desk.snapshot();
      desk.clear();
      desk.snapshot();
      Checks.add(desk, 0, "t=the", 5, 0);
      b.due("an empty one in place of a full one", desk.restore(), 0);
      Checks.add(desk, 0, "t=the", 5, 0);
      desk.snapshot();
      desk.clear();
      b.due("one rule in place of none", desk.restore(), 1);
    });
    b.at("Promise 35", "Returns the number of rules.", () -> {
      for (int rules : new int[] {0, 1, 23, 24}) {
        b.due("of " + rules, Desks.withRules(rules).snapshot(), rules);
      }
      b.due("nothing else changes", without("snapshot", Looks.after(Desks::busy, desk -> desk.snapshot())),
          without("snapshot", Looks.after(Desks::busy, desk -> null)));
    });
  }

  private static Map<String, Object> without(String part, Map<String, Object> looks) {
    looks.remove(part);
    return looks;
  }

  private void restore() {
    Supplier<AbbreviationDesk> made = () -> {
      AbbreviationDesk desk = Desks.withRules(24);
      Checks.learn(desk, "z=zzz");
      desk.setMode(0);
      desk.setThreshold(9);
      desk.snapshot();
      return desk;
    };
    b.at("Promise 36", "Restores all that from the snapshot, which stays available.", () -> {
      Object due = Looks.after(made, desk -> null).get("rules");
      for (int times = 1; times <= 2; times++) {
        int restores = times;
        Object got = Looks.after(made, desk -> {
          for (int restore = 0; restore < restores; restore++) {
            desk.clear();
            desk.setThreshold(1);
            Checks.learn(desk, "y=yyy");
            desk.restore();
          }
          return null;
        }).get("rules");
        b.due("all of it, " + times, got, due);
      }
      AbbreviationDesk desk = made.get();
      desk.clear();
      desk.restore();
      b.due("commands", desk.count(7), 27);
      AbbreviationDesk empty = new AbbreviationDesk();
      empty.snapshot();
      Checks.learn(empty, "z=zzz");
      empty.restore();
      b.due("of a new object", Checks.state(empty) + " " + empty.count(7), "m1 t2 0");
    });
    b.at("Promise 36", "After that no commands can be undone.", () -> {
      AbbreviationDesk desk = made.get();
      b.due("before it", desk.count(6), 8);
      desk.restore();
      b.due("after it", desk.count(6), 0);
      b.due("undo", () -> desk.undo(), Boundaries.ISE);
      desk.setMode(1);
      b.due("one more", desk.count(6), 1);
      b.due("undo of it", desk.undo(), 0);
      b.due("the mode of the snapshot", desk.count(2), 0);
    });
    b.at("Promise 36", "Returns the number of rules.", () -> {
      for (int rules : new int[] {0, 1, 23, 24}) {
        AbbreviationDesk desk = Desks.withRules(rules);
        desk.snapshot();
        Checks.answer(() -> desk.removeRule(0));
        b.due("of " + rules, desk.restore(), rules);
        b.due("once more", desk.restore(), rules);
      }
    });
    b.at("Promise 36", "Throws `IllegalStateException` if there is no snapshot", () -> {
      b.refused("new", AbbreviationDesk::new, desk -> desk.restore(), Boundaries.ISE);
      b.refused("with rules", () -> Desks.withRules(24), desk -> desk.restore(), Boundaries.ISE);
      b.refused("with pairs", () -> Desks.withPairs(30), desk -> desk.restore(), Boundaries.ISE);
      AbbreviationDesk desk = new AbbreviationDesk();
      desk.snapshot();
      b.due("an empty one", desk.restore(), 0);
    });
  }
}
