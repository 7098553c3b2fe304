import java.util.Arrays;
import java.util.function.Supplier;

/** The boundaries of the promises about rules, 1 to 17, sentence by sentence. */
final class RuleBoundaries {
  private static final String NO_RULE = "Throws `IndexOutOfBoundsException` if there is no such rule";
  private final Boundaries b;

  RuleBoundaries(Boundaries boundaries) {
    b = boundaries;
  }

  void run() {
    made();
    clear();
    append();
    addRule();
    addRuleRefused();
    removeRule();
    setPriority();
    setContext();
    setMode();
    setThreshold();
    rule();
    letter();
    count();
    countsAtTheirEdges();
    collision();
    order();
    shadow();
    shadowedPlaces();
    letterCount();
    saving();
  }

  /** A call on a rule is refused for each number beside those that there are, with no, some and all rules. */
  private void noSuchRule(String promise, RuleCall call) {
    b.at(promise, NO_RULE, () -> {
      for (int rules : new int[] {0, 1, 5, 24}) {
        for (int rule : new int[] {-1, rules, rules + 1}) {
          b.refused("rule " + rule + " of " + rules, () -> Desks.withRules(rules), desk -> call.on(desk, rule),
              Boundaries.IOOBE);
        }
        for (int rule = 0; rule < rules; rule++) {
          int at = rule;
          Object answer = Checks.answer(() -> call.on(Desks.withRules(rules), at));
          b.due("rule " + rule + " of " + rules + " is there", Boundaries.IOOBE.equals(answer), false);
        }
      }
      for (int rule : Boundaries.FAR) {
        b.refused("rule " + rule, () -> Desks.withRules(24), desk -> call.on(desk, rule), Boundaries.IOOBE);
      }
    });
  }

  private interface RuleCall {
    Object on(AbbreviationDesk desk, int rule);
  }

  private void made() {
    b.at("Promise 1", "Creates an object without rules.", () -> {
      AbbreviationDesk desk = new AbbreviationDesk();
      b.due("rules", desk.count(0), 0);
      b.due("rule 0", () -> desk.rule(0, 0), Boundaries.IOOBE);
      b.due("the best one", () -> desk.order(0), Boundaries.NSE);
      b.due("its first rule", Checks.add(desk, 0, "t=the", 0, 0), 0);
      b.due("another object", new AbbreviationDesk().count(0), 0);
    });
  }

  private void clear() {
    b.at("Promise 2", "Removes all rules and pairs; the mode becomes 1 and the threshold 2.", () -> {
      AbbreviationDesk[] desks = {
        new AbbreviationDesk(), Desks.busy(), Desks.withRules(1), Desks.withRules(24), Desks.withPairs(1),
        Desks.withPairs(30),
      };
      for (AbbreviationDesk desk : desks) {
        desk.setMode(0);
        desk.setThreshold(9);
        desk.clear();
        b.due("state", Checks.state(desk), "m1 t2");
        b.due("commands", desk.count(7), 0);
        b.due("undo", () -> desk.undo(), Boundaries.ISE);
        b.due("the next rule", Checks.answer(() -> addAfterEmptying(desk)), 0);
      }
    });
    b.at("Promise 2", "The buffer, the error position, the result, the rows and the snapshot stay.", () -> {
      var before = Looks.after(Desks::busy, desk -> null);
      var after = Looks.after(Desks::busy, desk -> desk.clear());
      for (String part : new String[] {"buffer", "error position", "result", "row 0", "row 1", "snapshot"}) {
        b.due(part, after.get(part), before.get(part));
      }
      AbbreviationDesk full = Desks.withBuffer(Desks.times(100, "b", ""));
      full.clear();
      b.due("a full buffer", full.count(5), 100);
    });
    b.at("Promise 2", "Returns the number of rules that there were.", () -> {
      for (int rules : new int[] {0, 1, 23, 24}) {
        AbbreviationDesk desk = Desks.withRules(rules);
        b.due("of " + rules, desk.clear(), rules);
        b.due("again", desk.clear(), 0);
      }
    });
  }

  private static int addAfterEmptying(AbbreviationDesk desk) {
    Checks.answer(() -> desk.expand());
    return Checks.add(desk, 0, "t=the", 0, 0);
  }

  private void append() {
    Supplier<AbbreviationDesk> full = () -> Desks.withBuffer(Desks.times(100, "b", ""));
    b.at("Promise 3", "Returns the number of characters in the buffer.", () -> {
      AbbreviationDesk desk = new AbbreviationDesk();
      for (int size = 1; size <= 100; size++) {
        b.due("character " + size, desk.append('b'), size);
      }
      Checks.answer(() -> desk.expand());
      b.due("after an empty buffer", desk.append('b'), 1);
    });
    b.at("Promise 3", "Throws `IllegalArgumentException` if the code is not from 32 to 126", () -> {
      for (int code : new int[] {0, 9, 10, 30, 31, 127, 128, 160, 255, 256, 256 + 'b', 65535}) {
        b.refused("code " + code, Desks::busy, desk -> desk.append((char) code), Boundaries.IAE);
        b.refused("code " + code + ", full", full, desk -> desk.append((char) code), Boundaries.IAE);
      }
      for (int code : new int[] {32, 33, 125, 126}) {
        b.due("code " + code, new AbbreviationDesk().append((char) code), 1);
      }
    });
    b.at("Promise 3", "Throws `UnsupportedOperationException` if the buffer has 100 characters", () -> {
      b.refused("full", full, desk -> desk.append('b'), Boundaries.UOE);
      for (int code : new int[] {32, 126}) {
        b.refused("full, code " + code, full, desk -> desk.append((char) code), Boundaries.UOE);
      }
      b.due("99", Desks.withBuffer(Desks.times(99, "b", "")).append('b'), 100);
    });
  }

  private void addRule() {
    b.at("Promise 4", "The buffer is empty afterwards, except if there is no such kind, priority or context.", () -> {
      AbbreviationDesk desk = new AbbreviationDesk();
      Checks.add(desk, 0, "t=the", 0, 0);
      b.due("after a rule", desk.count(5), 0);
      Checks.type(desk, "t");
      Checks.answer(() -> desk.addRule(0, 0, 0));
      b.due("after a malformed text", desk.count(5), 0);
      Checks.type(desk, "t=the");
      int[][] wrongs = {{-1, 0, 0}, {3, 0, 0}, {0, -1, 0}, {0, 100, 0}, {0, 0, -1}, {0, 0, 5}};
      for (int[] wrong : wrongs) {
        Checks.answer(() -> desk.addRule(wrong[0], wrong[1], wrong[2]));
        b.due("after a wrong number", desk.count(5), 5);
      }
      b.due("what stayed is a text of a rule", desk.addRule(0, 0, 0), 1);
      b.due("after it", desk.count(5), 0);
      AbbreviationDesk full = Desks.withRules(24);
      Checks.type(full, "t=the");
      Checks.answer(() -> full.addRule(0, 0, 0));
      b.due("with 24 rules", full.count(5), 0);
    });
    b.at("Promise 4", "Returns the number of the rule.", () -> {
      AbbreviationDesk desk = new AbbreviationDesk();
      for (int rule = 0; rule < 24; rule++) {
        b.due("rule " + rule, Checks.add(desk, 2 - rule % 3, "bcdefg=" + Desks.letters(12), 0, 4 - rule % 5), rule);
      }
      desk.removeRule(0);
      b.due("after one was removed", Checks.add(desk, 0, "t=the", 0, 0), 23);
    });
  }

  private void addRuleRefused() {
    b.at("Promise 4", "Throws `IndexOutOfBoundsException` if there is no such kind, priority or context", () -> {
      int[][] wrongs = {
        {-1, 0, 0}, {3, 0, 0}, {0, -1, 0}, {0, 100, 0}, {0, 0, -1}, {0, 0, 5}, {-1, -1, -1}, {3, 100, 5},
      };
      for (String text : new String[] {"", "b", "b=cc", "the 'x"}) {
        for (int[] wrong : wrongs) {
          b.refused("numbers " + Arrays.toString(wrong) + " with '" + text + "'", () -> Desks.busyWith(text),
              desk -> desk.addRule(wrong[0], wrong[1], wrong[2]), Boundaries.IOOBE);
        }
      }
      int[][] rights = {{0, 0, 0}, {2, 0, 0}, {0, 99, 0}, {0, 0, 4}, {2, 99, 4}};
      for (int[] right : rights) {
        b.due("numbers " + Arrays.toString(right),
            Desks.withBuffer("t=the").addRule(right[0], right[1], right[2]), 0);
      }
    });
    b.at("Promise 4", "Throws `IllegalArgumentException` if the text is malformed as a text of a rule; the error"
        + " position is then kept for errorPosition", () -> {
      Call add = desk -> desk.addRule(2, 99, 4);
      b.malformed("", add, 0, true);
      b.malformed("b", add, 1, true);
      b.malformed("bcdefgh=" + Desks.letters(12), add, 6, true);
      b.malformed("bcdefg=bcdefg", add, 13, true);
      b.malformed("b=" + Desks.letters(13), add, 14, true);
      b.malformed("b" + Desks.times(99, "=", ""), add, 2, true);
      b.refusedAndEmptied("the same position again", () -> Desks.busyWith("bc="), add, Boundaries.IAE);
    });
    b.at("Promise 4", "Throws `IllegalStateException` if there are 24 rules", () -> {
      b.refusedAndEmptied("24 rules", () -> withRulesAnd(24, "t=the"), desk -> desk.addRule(0, 0, 0), Boundaries.ISE);
      b.due("23 rules", withRulesAnd(23, "t=the").addRule(0, 0, 0), 23);
    });
  }

  private static AbbreviationDesk withRulesAnd(int rules, String text) {
    AbbreviationDesk desk = Desks.withRules(rules);
    Checks.type(desk, text);
    return desk;
  }

  private void removeRule() {
    b.at("Promise 5", "Returns the number of rules that remain.", () -> {
      AbbreviationDesk desk = Desks.withRules(24);
      for (int remain = 23; remain >= 0; remain--) {
        b.due("the last one", desk.removeRule(remain), remain);
      }
      AbbreviationDesk other = Desks.withRules(24);
      for (int remain = 23; remain >= 0; remain--) {
        b.due("the first one", other.removeRule(0), remain);
      }
      b.due("none is left", () -> other.removeRule(0), Boundaries.IOOBE);
    });
    noSuchRule("Promise 5", (desk, rule) -> desk.removeRule(rule));
  }

  private void setPriority() {
    b.at("Promise 6", "- `priority`: the priority, 0 to 99", () -> {
      AbbreviationDesk desk = Desks.withRules(24);
      for (int priority : new int[] {0, 1, 98, 99}) {
        desk.setPriority(23, priority);
        b.due("is now", desk.rule(23, 1), priority);
        desk.setPriority(0, priority);
        b.due("is now", desk.rule(0, 1), priority);
      }
    });
    b.at("Promise 6", "Returns the previous priority.", () -> {
      AbbreviationDesk desk = Desks.withRules(2);
      int[] priorities = {99, 0, 0, 99, 99, 50};
      int previous = 1;
      for (int priority : priorities) {
        b.due("before " + priority, desk.setPriority(1, priority), previous);
        previous = priority;
      }
      b.due("the other rule's stays", desk.rule(0, 1), 0);
    });
    noSuchRule("Promise 6", (desk, rule) -> desk.setPriority(rule, 0));
    b.at("Promise 6", "Throws `IllegalArgumentException` if the priority is out of range", () -> {
      for (int priority : new int[] {-1, 100, Integer.MIN_VALUE, Integer.MAX_VALUE}) {
        b.refused("priority " + priority, Desks::busy, desk -> desk.setPriority(0, priority), Boundaries.IAE);
      }
      b.due("0", Desks.busy().setPriority(0, 0), 5);
      b.due("99", Desks.busy().setPriority(0, 99), 5);
    });
  }

  private void setContext() {
    b.at("Promise 7", "- `context`: the context, 0 to 4", () -> {
      AbbreviationDesk desk = Desks.withRules(24);
      for (int context = 0; context <= 4; context++) {
        desk.setContext(0, context);
        b.due("is now", desk.rule(0, 2), context);
        desk.setContext(23, context);
        b.due("is now", desk.rule(23, 2), context);
      }
    });
    b.at("Promise 7", "Returns the previous context.", () -> {
      AbbreviationDesk desk = Desks.withRules(2);
      int previous = 1;
      for (int context : new int[] {4, 0, 0, 4, 4, 2}) {
        b.due("before " + context, desk.setContext(1, context), previous);
        previous = context;
      }
      b.due("the other rule's stays", desk.rule(0, 2), 0);
    });
    noSuchRule("Promise 7", (desk, rule) -> desk.setContext(rule, 0));
    b.at("Promise 7", "Throws `IllegalArgumentException` if there is no such context", () -> {
      for (int context : new int[] {-1, 5, Integer.MIN_VALUE, Integer.MAX_VALUE}) {
        b.refused("context " + context, Desks::busy, desk -> desk.setContext(2, context), Boundaries.IAE);
      }
      b.due("0", Desks.busy().setContext(2, 0), 2);
      b.due("4", Desks.busy().setContext(2, 4), 2);
    });
  }

  private void setMode() {
    b.at("Promise 8", "- `mode`: the mode, 0 or 1", () -> {
      AbbreviationDesk desk = new AbbreviationDesk();
      Checks.add(desk, 0, "t=the", 0, 0);
      desk.setMode(0);
      b.due("0", desk.count(2), 0);
      b.due("a text in it", Checks.abbreviated(desk, "t"), "t");
      desk.setMode(1);
      b.due("1", desk.count(2), 1);
      b.due("a text in it", Checks.abbreviated(desk, "t"), "'t");
    });
    b.at("Promise 8", "Returns the previous mode.", () -> {
      AbbreviationDesk desk = new AbbreviationDesk();
      int previous = 1;
      for (int mode : new int[] {1, 0, 0, 1}) {
        b.due("before " + mode, desk.setMode(mode), previous);
        previous = mode;
      }
    });
    b.at("Promise 8", "Throws `IllegalArgumentException` if there is no such mode", () -> {
      for (int mode : new int[] {-1, 2, Integer.MIN_VALUE, Integer.MAX_VALUE}) {
        b.refused("mode " + mode, Desks::busy, desk -> desk.setMode(mode), Boundaries.IAE);
        b.refused("mode " + mode + ", new", AbbreviationDesk::new, desk -> desk.setMode(mode), Boundaries.IAE);
      }
    });
  }

  private void setThreshold() {
    b.at("Promise 9", "It adds no rules by itself.", () -> {
      AbbreviationDesk desk = new AbbreviationDesk();
      desk.setThreshold(9);
      Checks.learn(desk, "b b b c=cc cc cc dd");
      for (int threshold = 1; threshold <= 9; threshold++) {
        desk.setThreshold(threshold);
        b.due("rules with " + threshold, desk.count(0), 0);
      }
      desk.setThreshold(2);
      b.due("the next time of the other pair", Checks.learn(desk, "b c=cc dd"), 1);
      b.due("its long form", desk.letter(0, true, 0), 'd');
    });
    b.at("Promise 9", "- `threshold`: the threshold, 1 to 9", () -> {
      for (int threshold = 1; threshold <= 9; threshold++) {
        AbbreviationDesk desk = new AbbreviationDesk();
        desk.setThreshold(threshold);
        b.due("is now", desk.count(3), threshold);
        String text = Desks.times(threshold, "b", " ") + "=" + Desks.times(threshold, "cc", " ");
        b.due("times in a text", Checks.learn(desk, text), 1);
        b.due("priority", desk.rule(0, 1), 10 * threshold);
      }
    });
    b.at("Promise 9", "Returns the previous threshold.", () -> {
      AbbreviationDesk desk = new AbbreviationDesk();
      int previous = 2;
      for (int threshold : new int[] {1, 9, 9, 1, 1, 5}) {
        b.due("before " + threshold, desk.setThreshold(threshold), previous);
        previous = threshold;
      }
    });
    b.at("Promise 9", "Throws `IllegalArgumentException` if the threshold is out of range", () -> {
      for (int threshold : new int[] {-1, 0, 10, Integer.MIN_VALUE, Integer.MAX_VALUE}) {
        b.refused("threshold " + threshold, Desks::busy, desk -> desk.setThreshold(threshold), Boundaries.IAE);
        b.refused("threshold " + threshold + ", new", AbbreviationDesk::new, desk -> desk.setThreshold(threshold),
            Boundaries.IAE);
      }
    });
  }

  private void rule() {
    b.at("Promise 10", "0 for its kind, 1 for its priority, 2 for its context, 3 for the letters of its short form,"
        + " as a number, 4 for those of its long form, as a number, 5 for the number of rules that are"
        + " better", () -> {
      AbbreviationDesk desk = new AbbreviationDesk();
      Checks.add(desk, 0, "b=cc", 0, 0);
      Checks.add(desk, 2, "bcdefg=" + Desks.letters(12), 99, 4);
      int[][] due = {{0, 0, 0, 1, 2, 1}, {2, 99, 4, 6, 12, 0}};
      for (int rule = 0; rule <= 1; rule++) {
        for (int what = 0; what <= 5; what++) {
          b.due("rule " + rule + ", " + what, desk.rule(rule, what), due[rule][what]);
        }
      }
      AbbreviationDesk all = Desks.withRules(24);
      for (int rule = 0; rule < 24; rule++) {
        b.due("better ones of rule " + rule, all.rule(rule, 5), 23 - rule);
      }
    });
    noSuchRule("Promise 10", (desk, rule) -> desk.rule(rule, 0));
    b.at("Promise 10", "Throws `IllegalArgumentException` if what is out of range", () -> {
      for (int what : new int[] {-1, 6, Integer.MIN_VALUE, Integer.MAX_VALUE}) {
        b.refused("what " + what, Desks::busy, desk -> desk.rule(2, what), Boundaries.IAE);
      }
    });
  }

  private void letter() {
    b.at("Promise 11", "- `index`: the index of the letter, from 0", () -> {
      AbbreviationDesk desk = new AbbreviationDesk();
      Checks.add(desk, 0, "zabcda=zbcdefghijka", 0, 0);
      Checks.add(desk, 0, "a=zz", 0, 0);
      b.due("the first", desk.letter(0, false, 0), 'z');
      b.due("the sixth", desk.letter(0, false, 5), 'a');
      b.due("the first of the long form", desk.letter(0, true, 0), 'z');
      b.due("the eleventh", desk.letter(0, true, 10), 'k');
      b.due("the twelfth", desk.letter(0, true, 11), 'a');
      b.due("the only one", desk.letter(1, false, 0), 'a');
      b.due("the last of two", desk.letter(1, true, 1), 'z');
      Checks.add(desk, 0, Desks.times(6, "z", "") + "=" + Desks.times(12, "z", ""), 0, 0);
      Checks.add(desk, 0, Desks.times(6, "a", "") + "=" + Desks.times(12, "a", ""), 0, 0);
      String letters = Checks.form(desk, 2, false) + Checks.form(desk, 2, true);
      b.due("the last letter alone", letters, Desks.times(18, "z", ""));
      letters = Checks.form(desk, 3, false) + Checks.form(desk, 3, true);
      b.due("the first letter alone", letters, Desks.times(18, "a", ""));
    });
    noSuchRule("Promise 11", (desk, rule) -> desk.letter(rule, false, 0));
    b.at("Promise 11", "Throws `NoSuchElementException` if the form has no such letter", () -> {
      Supplier<AbbreviationDesk> made = () -> {
        AbbreviationDesk desk = Desks.busyWith("b=cc");
        desk.addRule(0, 0, 0);
        Checks.add(desk, 0, "bcdefg=" + Desks.letters(12), 0, 0);
        return desk;
      };
      int[][] counts = {{1, 2}, {6, 12}};
      for (int rule = 0; rule <= 1; rule++) {
        int number = 3 + rule;
        for (int form = 0; form <= 1; form++) {
          boolean isLong = form == 1;
          for (int index : new int[] {-1, counts[rule][form], counts[rule][form] + 1, 12, 16, Integer.MIN_VALUE,
              Integer.MAX_VALUE}) {
            b.refused("rule " + number + " " + isLong + " " + index, made, desk -> desk.letter(number, isLong, index),
                Boundaries.NSE);
          }
        }
      }
    });
  }

  private void count() {
    b.at("Promise 12", "0 for the rules, 1 for the pairs, 2 for the mode, 3 for the threshold, 4 for the collisions,"
        + " 5 for the characters in the buffer, 6 for the commands that can be undone, 7 for the commands", () -> {
      int[] fresh = {0, 0, 1, 2, 0, 0, 0, 0};
      int[] busy = {3, 2, 0, 3, 1, 6, 6, 6};
      for (int what = 0; what <= 7; what++) {
        b.due("new, " + what, new AbbreviationDesk().count(what), fresh[what]);
        b.due("busy, " + what, Desks.busy().count(what), busy[what]);
      }
    });
    b.at("Promise 12", "Throws `IllegalArgumentException` if what is out of range", () -> {
      for (int what : new int[] {-1, 8, Integer.MIN_VALUE, Integer.MAX_VALUE}) {
        b.refused("what " + what, Desks::busy, desk -> desk.count(what), Boundaries.IAE);
        b.refused("what " + what + ", new", AbbreviationDesk::new, desk -> desk.count(what), Boundaries.IAE);
      }
    });
  }

  private void countsAtTheirEdges() {
    b.at("Promise 12", "0 for the rules", () -> b.due("24 rules", Desks.withRules(24).count(0), 24));
    b.at("Promise 12", "1 for the pairs", () -> {
      for (int pairs : new int[] {0, 1, 15, 16, 29, 30}) {
        b.due("pairs", Desks.withPairs(pairs).count(1), pairs);
      }
    });
    b.at("Promise 12", "4 for the collisions", () -> b.due("of 24 rules", collidingRules().count(4), 276));
    b.at("Promise 12", "5 for the characters in the buffer", () -> {
      for (int size : new int[] {0, 1, 99, 100}) {
        b.due("characters", Desks.withBuffer(Desks.times(size, "b", "")).count(5), size);
      }
    });
    b.at("Promise 12", "6 for the commands that can be undone, 7 for the commands", () -> {
      AbbreviationDesk desk = new AbbreviationDesk();
      for (int commands = 0; commands <= 20; commands++) {
        b.due("that can be undone", desk.count(6), Math.min(commands, 8));
        b.due("commands", desk.count(7), commands);
        desk.setMode(commands % 2);
      }
    });
  }

  /** As many rules as there can be, of which each two collide. */
  private static AbbreviationDesk collidingRules() {
    AbbreviationDesk desk = new AbbreviationDesk();
    for (int rule = 0; rule < 24; rule++) {
      Checks.add(desk, 0, "t=th" + (char) ('a' + rule), 0, 0);
    }
    return desk;
  }

  private void collision() {
    b.at("Promise 13", "- `index`: the index of the collision, from 0", () -> {
      AbbreviationDesk desk = collidingRules();
      int[][] due = {{0, 0, 1}, {1, 0, 2}, {22, 0, 23}, {23, 1, 2}, {274, 21, 23}, {275, 22, 23}};
      for (int[] one : due) {
        b.due("lower of " + one[0], desk.collision(one[0], false), one[1]);
        b.due("higher of " + one[0], desk.collision(one[0], true), one[2]);
      }
    });
    b.at("Promise 13", "- `second`: false for the rule with the lower number, true for the other one", () -> {
      b.due("lower", Desks.busy().collision(0, false), 0);
      b.due("higher", Desks.busy().collision(0, true), 2);
    });
    b.at("Promise 13", "Throws `NoSuchElementException` if there is no such collision", () -> {
      for (int index : new int[] {-1, 1, 2, Integer.MIN_VALUE, Integer.MAX_VALUE}) {
        b.refused("index " + index + " of one", Desks::busy, desk -> desk.collision(index, true), Boundaries.NSE);
      }
      for (int index : new int[] {-1, 276, 277}) {
        b.refused("index " + index + " of 276", RuleBoundaries::collidingRules, desk -> desk.collision(index, false),
            Boundaries.NSE);
      }
      b.refused("none at all", AbbreviationDesk::new, desk -> desk.collision(0, false), Boundaries.NSE);
      b.refused("rules without one", () -> Desks.withRules(24), desk -> desk.collision(0, true), Boundaries.NSE);
    });
  }

  private void order() {
    b.at("Promise 14", "Returns the rule for which a number of other rules are better.", () -> {
      AbbreviationDesk desk = Desks.withRules(24);
      for (int better = 0; better < 24; better++) {
        b.due("better " + better, desk.order(better), 23 - better);
      }
      b.due("of one", Desks.withRules(1).order(0), 0);
    });
    b.at("Promise 14", "Throws `NoSuchElementException` if there is no such rule", () -> {
      for (int rules : new int[] {0, 1, 2, 24}) {
        for (int better : new int[] {-1, rules, rules + 1, Integer.MIN_VALUE, Integer.MAX_VALUE}) {
          b.refused(better + " better of " + rules, () -> Desks.withRules(rules), desk -> desk.order(better),
              Boundaries.NSE);
        }
      }
    });
  }

  private void shadow() {
    b.at("Promise 15", "one of the same kind that is better than it, has the same long form (or, if isLong is false,"
        + " the same short form)", () -> {
      AbbreviationDesk desk = new AbbreviationDesk();
      Checks.add(desk, 1, "t=the", 5, 0);
      Object[][] others = {
        {1, "u=the", 6, -1, 1}, {1, "u=the", 5, -1, -1}, {1, "u=the", 4, -1, -1}, {0, "u=the", 6, -1, -1},
        {2, "u=the", 6, -1, -1}, {1, "t=tha", 6, 1, -1}, {1, "t=tha", 5, -1, -1}, {1, "t=that", 5, 1, -1},
        {1, "t=that", 4, -1, -1}, {2, "t=tha", 6, -1, -1}, {1, "t=the", 6, 1, 1}, {1, "t=the", 5, -1, -1},
      };
      for (Object[] other : others) {
        Checks.add(desk, (Integer) other[0], (String) other[1], (Integer) other[2], 0);
        String what = other[0] + " " + other[1] + " " + other[2];
        b.due("short forms, " + what, desk.shadow(0, false), other[3]);
        b.due("long forms, " + what, desk.shadow(0, true), other[4]);
        desk.removeRule(1);
      }
      Checks.add(desk, 1, "t=the", 5, 0);
      b.due("the lower number of equal ones", desk.shadow(1, true), 0);
      b.due("the lower number itself", desk.shadow(0, true), -1);
    });
    b.at("Promise 15", "Returns the best such rule, or -1 if there is none.", () -> {
      AbbreviationDesk desk = new AbbreviationDesk();
      for (int priority : new int[] {5, 7, 9, 9, 8}) {
        Checks.add(desk, 0, "t=the", priority, 0);
      }
      int[] due = {2, 2, -1, 2, 2};
      for (int rule = 0; rule < 5; rule++) {
        b.due("long, rule " + rule, desk.shadow(rule, true), due[rule]);
        b.due("short, rule " + rule, desk.shadow(rule, false), due[rule]);
      }
      b.due("one alone", Desks.withRules(1).shadow(0, true), -1);
      AbbreviationDesk bestFirst = new AbbreviationDesk();
      for (int priority : new int[] {9, 7, 8, 5}) {
        Checks.add(bestFirst, 0, "t=the", priority, 0);
      }
      b.due("the best one has the number 0", bestFirst.shadow(3, true), 0);
      AbbreviationDesk full = new AbbreviationDesk();
      for (int rule = 0; rule < 24; rule++) {
        Checks.add(full, 0, "t=the", rule, 0);
      }
      b.due("the first by the last", full.shadow(0, true), 23);
      b.due("the last", full.shadow(23, true), -1);
    });
    noSuchRule("Promise 15", (desk, rule) -> desk.shadow(rule, true));
  }

  private void shadowedPlaces() {
    b.at("Promise 15", "and fits at all kinds of places at which the other one fits, which are the word 0, behind a"
        + " vowel, and behind another letter.", () -> {
      int[][] due = {{1, 1, 1, 1, 1}, {0, 1, 0, 0, 0}, {0, 0, 1, 1, 1}, {0, 0, 0, 1, 0}, {0, 0, 0, 0, 1}};
      AbbreviationDesk desk = new AbbreviationDesk();
      Checks.add(desk, 0, "t=the", 9, 0);
      Checks.add(desk, 0, "t=the", 5, 0);
      for (int better = 0; better <= 4; better++) {
        for (int other = 0; other <= 4; other++) {
          desk.setContext(0, better);
          desk.setContext(1, other);
          b.due("context " + other + " by " + better, desk.shadow(1, true), due[better][other] - 1);
        }
      }
    });
  }

  private void letterCount() {
    b.at("Promise 16", "Returns how often a letter stands in the short forms or the long forms of all rules.", () -> {
      AbbreviationDesk desk = new AbbreviationDesk();
      b.due("without rules", desk.letterCount('z', true), 0);
      for (int rule = 0; rule < 24; rule++) {
        Checks.add(desk, rule % 3, "za=aaz", 0, rule % 5);
      }
      b.due("z in the short forms", desk.letterCount('z', false), 24);
      b.due("a in the long forms", desk.letterCount('a', true), 48);
      b.due("z in the long forms", desk.letterCount('z', true), 24);
      b.due("b", desk.letterCount('b', true), 0);
      AbbreviationDesk longest = new AbbreviationDesk();
      for (int rule = 0; rule < 20; rule++) {
        Checks.add(longest, 0, "zzzzzz=" + Desks.times(12, "z", ""), 0, 0);
      }
      b.due("all letters of short forms", longest.letterCount('z', false), 120);
      b.due("all letters of long forms", longest.letterCount('z', true), 240);
      b.due("a", longest.letterCount('a', true), 0);
    });
    b.at("Promise 16", "Throws `IllegalArgumentException` if it is not from a to z", () -> {
      for (int code : new int[] {0, 32, 'A', 'Z', 'a' - 1, 'z' + 1, 'a' + 256, 65535}) {
        b.refused("code " + code, Desks::busy, desk -> desk.letterCount((char) code, true), Boundaries.IAE);
        b.refused("code " + code + ", new", AbbreviationDesk::new, desk -> desk.letterCount((char) code, false),
            Boundaries.IAE);
      }
      b.due("a", Desks.busy().letterCount('a', true), 1);
      b.due("z", Desks.busy().letterCount('z', false), 0);
    });
  }

  private void saving() {
    b.at("Promise 17", "the sum, over all rules, of the letters of the long form minus those of the short form, each"
        + " times a number that is 1 for rules for words and 2 for the others.", () -> {
      int[] due = {11, 22, 22};
      for (int kind = 0; kind <= 2; kind++) {
        AbbreviationDesk desk = new AbbreviationDesk();
        b.due("without rules", desk.saving(kind), 0);
        Checks.add(desk, kind, "b=" + Desks.letters(12), 99, 4);
        b.due("the most that a rule saves", desk.saving(kind), due[kind]);
        Checks.add(desk, kind, "bcdefg=zbcdefg", 99, 4);
        b.due("and the least", desk.saving(kind), due[kind] + (kind == 0 ? 1 : 2));
      }
      AbbreviationDesk full = new AbbreviationDesk();
      for (int rule = 0; rule < 24; rule++) {
        Checks.add(full, 1, "b=" + Desks.letters(12), 0, 0);
      }
      b.due("the most of all", full.saving(1), 528);
    });
    b.at("Promise 17", "- `kind`: the kind of the rules that count, or -1 for all kinds", () -> {
      AbbreviationDesk desk = new AbbreviationDesk();
      b.due("without rules", desk.saving(-1), 0);
      Checks.add(desk, 0, "b=cc", 0, 0);
      Checks.add(desk, 1, "b=cccc", 0, 0);
      Checks.add(desk, 2, "b=" + Desks.letters(12), 0, 0);
      int[] due = {29, 1, 6, 22};
      for (int kind = -1; kind <= 2; kind++) {
        b.due("kind " + kind, desk.saving(kind), due[kind + 1]);
      }
    });
    b.at("Promise 17", "Throws `IllegalArgumentException` if there is no such kind", () -> {
      for (int kind : new int[] {-2, 3, Integer.MIN_VALUE, Integer.MAX_VALUE}) {
        b.refused("kind " + kind, Desks::busy, desk -> desk.saving(kind), Boundaries.IAE);
        b.refused("kind " + kind + ", new", AbbreviationDesk::new, desk -> desk.saving(kind), Boundaries.IAE);
      }
    });
  }
}
