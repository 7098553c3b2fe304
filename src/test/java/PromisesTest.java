/** Each promise of the document with ordinary inputs, the edges that it names, and wrong inputs. */
public final class PromisesTest {
  private static final String IOOBE = "IndexOutOfBoundsException";
  private static final String IAE = "IllegalArgumentException";
  private static final String ISE = "IllegalStateException";
  private static final String NSE = "NoSuchElementException";
  private static final String UOE = "UnsupportedOperationException";
  private static final Checks c = new Checks();

  public static void main(String[] args) {
    promise1New();
    promise2Clear();
    promise3Append();
    promise4AddRule();
    promise4ErrorPositions();
    promise5RemoveRule();
    promise6SetPriority();
    promise7SetContext();
    promise8SetMode();
    promise9SetThreshold();
    promise10Rule();
    promise11Letter();
    promise12Count();
    promise13Collision();
    promise14Order();
    promise15Shadow();
    promise16LetterCount();
    promise17Saving();
    promise18Learn();
    promise18LearnLimits();
    promise18ErrorPositions();
    promise19Pair();
    promise20AbbreviateForms();
    promise20AbbreviateContexts();
    promise20AbbreviateModes();
    promise20ErrorPositions();
    promise21Expand();
    promise21ExpandLongWords();
    promise21ErrorPositions();
    promise22ErrorPosition();
    promise23Output();
    promise24TakeBack();
    promise25Word();
    promise26Result();
    promise27FirstLost();
    promise28Share();
    promise29MeanPriority();
    promise30StoreLengths();
    promise31CopyLengths();
    promise32StoredBits();
    promise33Undo();
    promise34IsReplayed();
    promise35And36Snapshot();
    wrongArgumentsEverywhere();
    c.end();
  }

  private static void promise1New() {
    c.part("1 new");
    AbbreviationDesk desk = new AbbreviationDesk();
    c.due("state", Checks.state(desk), "m1 t2");
    for (int what = 4; what <= 7; what++) {
      int number = what;
      c.due("count " + what, () -> desk.count(number), 0);
    }
    c.due("no result", () -> desk.result(0), ISE);
    c.due("no error position", () -> desk.errorPosition(), NSE);
    c.due("no snapshot", () -> desk.restore(), ISE);
    c.due("no row", () -> desk.storedBits(0, 0), NSE);
    c.due("nothing to undo", () -> desk.undo(), ISE);
    c.due("replayed", desk.isReplayed(), true);
  }

  private static void promise2Clear() {
    c.part("2 clear");
    AbbreviationDesk desk = new AbbreviationDesk();
    c.due("of nothing", desk.clear(), 0);
    Checks.add(desk, 0, "t=the", 5, 0);
    Checks.add(desk, 2, "g=ing", 5, 0);
    Checks.learn(desk, "a=abc");
    desk.setMode(0);
    desk.setThreshold(7);
    desk.snapshot();
    Checks.abbreviated(desk, "the");
    desk.storeLengths(1, true);
    Checks.type(desk, "x=");
    Checks.answer(() -> desk.learn());
    Checks.type(desk, "rest");
    c.due("rules before", desk.clear(), 2);
    c.due("state", Checks.state(desk), "m1 t2");
    c.due("commands", desk.count(7), 0);
    c.due("undos", desk.count(6), 0);
    c.due("undo", () -> desk.undo(), ISE);
    c.due("buffer stays", desk.count(5), 4);
    c.due("error position stays", desk.errorPosition(), 2);
    c.due("result stays", Checks.output(desk), "t");
    c.due("row stays", desk.storedBits(1, 0), Float.floatToIntBits(1f));
    c.due("snapshot stays", desk.restore(), 2);
    c.due("restored", Checks.state(desk), "0 t=the 5 0; 2 g=ing 5 0; 1,1,3,-1; m0 t7");
  }

  private static void promise3Append() {
    c.part("3 append");
    AbbreviationDesk desk = new AbbreviationDesk();
    c.due("31", () -> desk.append((char) 31), IAE);
    c.due("127", () -> desk.append((char) 127), IAE);
    c.due("0", () -> desk.append((char) 0), IAE);
    c.due("65535", () -> desk.append((char) 65535), IAE);
    c.due("count", desk.count(5), 0);
    c.due("32", () -> desk.append((char) 32), 1);
    c.due("126", () -> desk.append((char) 126), 2);
    for (int size = 3; size <= 100; size++) {
      c.due("append " + size, desk.append('a'), size);
    }
    c.due("full", () -> desk.append('a'), UOE);
    c.due("full and wrong", () -> desk.append((char) 5), IAE);
    c.due("count", desk.count(5), 100);
  }

  private static void promise4AddRule() {
    c.part("4 addRule");
    AbbreviationDesk desk = new AbbreviationDesk();
    c.due("first", Checks.add(desk, 0, "t=the", 0, 0), 0);
    c.due("buffer empty", desk.count(5), 0);
    c.due("second", Checks.add(desk, 1, "abcdef=abcdefghijkl", 99, 4), 1);
    c.due("equal", Checks.add(desk, 2, "t=the", 0, 0), 2);
    c.due("state", Checks.state(desk), "0 t=the 0 0; 1 abcdef=abcdefghijkl 99 4; 2 t=the 0 0; m1 t2");
    int[][] wrongs = {{-1, 0, 0}, {3, 0, 0}, {0, -1, 0}, {0, 100, 0}, {0, 0, -1}, {0, 0, 5}};
    Checks.type(desk, "x");
    for (int[] wrong : wrongs) {
      c.due("wrong number", () -> desk.addRule(wrong[0], wrong[1], wrong[2]), IOOBE);
      c.due("buffer stays", desk.count(5), 1);
      c.due("no error position", () -> desk.errorPosition(), NSE);
    }
    c.due("malformed", () -> desk.addRule(0, 0, 0), IAE);
    c.due("emptied", desk.count(5), 0);
    c.due("position", desk.errorPosition(), 1);
    c.due("no command", desk.count(7), 3);
    for (int rule = 3; rule < 24; rule++) {
      c.due("rule " + rule, Checks.add(desk, 0, "t=the", 0, 0), rule);
    }
    c.due("malformed before full", () -> desk.addRule(0, 0, 0), IAE);
    c.due("its position", desk.errorPosition(), 0);
    Checks.type(desk, "t=the");
    c.due("full", () -> desk.addRule(0, 0, 0), ISE);
    c.due("emptied when full", desk.count(5), 0);
    c.due("rules", desk.count(0), 24);
    c.due("commands", desk.count(7), 24);
  }

  private static void promise4ErrorPositions() {
    c.part("4 error positions");
    Object[][] texts = {
      {"", 0}, {"=", 0}, {"=ab", 0}, {"'a=ab", 0}, {" a=ab", 0}, {"A=ab", 0}, {"a", 1}, {"abcdef", 6},
      {"abcdefg", 6}, {"abcdefg=abcdefgh", 6}, {"a b=abc", 1}, {"a=", 2}, {"a=b", 3}, {"ab=", 3}, {"ab=ab", 5},
      {"abc=ab", 6}, {"a=b ", 3}, {"a=bc ", 4}, {"a=bc=", 4}, {"a==b", 2}, {"a=b1", 3}, {"a='bc", 2},
      {"a=abcdefghijklm", 14}, {"a=abcdefghijklmn", 14}, {"abcdef=abcdef", 13}, {"abcdef=abcdeF", 12},
      {"a=ab{", 4}, {"a=ab`", 4}, {"{=ab", 0}, {"`=ab", 0},
    };
    for (Object[] text : texts) {
      AbbreviationDesk desk = new AbbreviationDesk();
      Checks.type(desk, (String) text[0]);
      c.due("'" + text[0] + "'", () -> desk.addRule(0, 0, 0), IAE);
      c.due("position of '" + text[0] + "'", () -> desk.errorPosition(), text[1]);
    }
    for (String text : new String[] {"a=bc", "ab=abc", "abcdef=abcdefg", "a=abcdefghijkl", "z=zz"}) {
      AbbreviationDesk desk = new AbbreviationDesk();
      Checks.type(desk, text);
      c.due("'" + text + "'", () -> desk.addRule(0, 0, 0), 0);
      c.due("no position", () -> desk.errorPosition(), NSE);
      c.due("forms", Checks.form(desk, 0, false) + "=" + Checks.form(desk, 0, true), text);
    }
  }

  private static void promise5RemoveRule() {
    c.part("5 removeRule");
    AbbreviationDesk desk = new AbbreviationDesk();
    c.due("none", () -> desk.removeRule(0), IOOBE);
    Checks.add(desk, 0, "a=abc", 1, 0);
    Checks.add(desk, 1, "b=bcd", 2, 1);
    Checks.add(desk, 2, "c=cde", 3, 2);
    c.due("-1", () -> desk.removeRule(-1), IOOBE);
    c.due("3", () -> desk.removeRule(3), IOOBE);
    c.due("middle", desk.removeRule(1), 2);
    c.due("state", Checks.state(desk), "0 a=abc 1 0; 2 c=cde 3 2; m1 t2");
    c.due("first", desk.removeRule(0), 1);
    c.due("last", desk.removeRule(0), 0);
    c.due("commands", desk.count(7), 6);
    for (int rule = 0; rule < 24; rule++) {
      Checks.add(desk, 0, "a=abc", rule, 0);
    }
    c.due("last of 24", desk.removeRule(23), 23);
    c.due("first of 23", desk.removeRule(0), 22);
    c.due("numbers", desk.rule(21, 1), 22);
  }

  private static void promise6SetPriority() {
    c.part("6 setPriority");
    AbbreviationDesk desk = new AbbreviationDesk();
    c.due("no rule before priority", () -> desk.setPriority(0, 100), IOOBE);
    Checks.add(desk, 0, "a=abc", 7, 0);
    c.due("-1", () -> desk.setPriority(0, -1), IAE);
    c.due("100", () -> desk.setPriority(0, 100), IAE);
    c.due("rule -1", () -> desk.setPriority(-1, 5), IOOBE);
    c.due("rule 1", () -> desk.setPriority(1, 5), IOOBE);
    c.due("99", desk.setPriority(0, 99), 7);
    c.due("0", desk.setPriority(0, 0), 99);
    c.due("the same is a command", desk.setPriority(0, 0), 0);
    c.due("commands", desk.count(7), 4);
    c.due("now", desk.rule(0, 1), 0);
  }

  private static void promise7SetContext() {
    c.part("7 setContext");
    AbbreviationDesk desk = new AbbreviationDesk();
    c.due("no rule before context", () -> desk.setContext(0, 5), IOOBE);
    Checks.add(desk, 0, "a=abc", 7, 1);
    c.due("-1", () -> desk.setContext(0, -1), IAE);
    c.due("5", () -> desk.setContext(0, 5), IAE);
    c.due("rule -1", () -> desk.setContext(-1, 0), IOOBE);
    c.due("4", desk.setContext(0, 4), 1);
    c.due("0", desk.setContext(0, 0), 4);
    c.due("the same is a command", desk.setContext(0, 0), 0);
    c.due("commands", desk.count(7), 4);
    c.due("now", desk.rule(0, 2), 0);
  }

  private static void promise8SetMode() {
    c.part("8 setMode");
    AbbreviationDesk desk = new AbbreviationDesk();
    c.due("-1", () -> desk.setMode(-1), IAE);
    c.due("2", () -> desk.setMode(2), IAE);
    c.due("no command", desk.count(7), 0);
    c.due("0", desk.setMode(0), 1);
    c.due("now", desk.count(2), 0);
    c.due("1", desk.setMode(1), 0);
    c.due("the same is a command", desk.setMode(1), 1);
    c.due("commands", desk.count(7), 3);
  }

  private static void promise9SetThreshold() {
    c.part("9 setThreshold");
    AbbreviationDesk desk = new AbbreviationDesk();
    c.due("0", () -> desk.setThreshold(0), IAE);
    c.due("10", () -> desk.setThreshold(10), IAE);
    Checks.learn(desk, "a=abc");
    c.due("1", desk.setThreshold(1), 2);
    c.due("adds no rules", desk.count(0), 0);
    c.due("9", desk.setThreshold(9), 1);
    c.due("now", desk.count(3), 9);
    c.due("the same is a command", desk.setThreshold(9), 9);
    c.due("commands", desk.count(7), 4);
  }

  private static void promise10Rule() {
    c.part("10 rule");
    AbbreviationDesk desk = new AbbreviationDesk();
    c.due("no rule before what", () -> desk.rule(0, 9), IOOBE);
    Checks.add(desk, 1, "ab=abcd", 7, 3);
    Checks.add(desk, 2, "ab=abcde", 7, 0);
    Checks.add(desk, 0, "a=abcd", 7, 0);
    Checks.add(desk, 0, "a=ab", 8, 0);
    c.due("what -1", () -> desk.rule(0, -1), IAE);
    c.due("what 6", () -> desk.rule(0, 6), IAE);
    c.due("rule -1", () -> desk.rule(-1, 0), IOOBE);
    c.due("rule 4", () -> desk.rule(4, 0), IOOBE);
    int[] due = {1, 7, 3, 2, 4, 2};
    for (int what = 0; what < due.length; what++) {
      c.due("what " + what, desk.rule(0, what), due[what]);
    }
    c.due("longer long form is better", desk.rule(1, 5), 1);
    c.due("lower number is better", desk.rule(2, 5), 3);
    c.due("priority is better", desk.rule(3, 5), 0);
  }

  private static void promise11Letter() {
    c.part("11 letter");
    AbbreviationDesk desk = new AbbreviationDesk();
    c.due("no rule before index", () -> desk.letter(0, true, -1), IOOBE);
    Checks.add(desk, 0, "az=zyxwvutsrqpa", 7, 3);
    c.due("short", Checks.form(desk, 0, false), "az");
    c.due("long", Checks.form(desk, 0, true), "zyxwvutsrqpa");
    c.due("a", desk.letter(0, false, 0), 'a');
    c.due("short 2", () -> desk.letter(0, false, 2), NSE);
    c.due("long 12", () -> desk.letter(0, true, 12), NSE);
    c.due("long -1", () -> desk.letter(0, true, -1), NSE);
    c.due("rule 1", () -> desk.letter(1, true, 0), IOOBE);
    c.due("rule -1", () -> desk.letter(-1, true, 0), IOOBE);
  }

  private static void promise12Count() {
    c.part("12 count");
    AbbreviationDesk desk = new AbbreviationDesk();
    c.due("-1", () -> desk.count(-1), IAE);
    c.due("8", () -> desk.count(8), IAE);
    Checks.add(desk, 0, "a=abc", 7, 0);
    Checks.add(desk, 0, "a=abd", 7, 0);
    Checks.add(desk, 0, "a=abe", 7, 0);
    Checks.learn(desk, "a b=abc bcd");
    desk.setMode(0);
    desk.setThreshold(4);
    Checks.type(desk, "ab");
    int[] due = {3, 2, 0, 4, 3, 2, 6, 6};
    for (int what = 0; what < due.length; what++) {
      c.due("what " + what, desk.count(what), due[what]);
    }
    for (int times = 0; times < 5; times++) {
      desk.setMode(1);
    }
    c.due("undos", desk.count(6), 8);
    c.due("commands", desk.count(7), 11);
  }

  private static void promise13Collision() {
    c.part("13 collision");
    AbbreviationDesk desk = new AbbreviationDesk();
    c.due("none", () -> desk.collision(0, false), NSE);
    Checks.add(desk, 0, "a=abc", 1, 0);  // 0
    Checks.add(desk, 1, "a=abd", 1, 0);  // 1: another kind
    Checks.add(desk, 0, "b=abd", 1, 0);  // 2: another short form
    Checks.add(desk, 0, "a=abc", 1, 0);  // 3: the same long form as 0
    Checks.add(desk, 0, "a=abf", 1, 1);  // 4
    Checks.add(desk, 0, "a=abg", 1, 2);  // 5: never where 4 is
    Checks.add(desk, 0, "a=abh", 1, 3);  // 6
    Checks.add(desk, 0, "a=abi", 1, 4);  // 7: never where 6 or 4 is
    int[][] due = {{0, 4}, {0, 5}, {0, 6}, {0, 7}, {3, 4}, {3, 5}, {3, 6}, {3, 7}, {5, 6}, {5, 7}};
    c.due("number", desk.count(4), due.length);
    for (int index = 0; index < due.length; index++) {
      c.due(index + " lower", desk.collision(index, false), due[index][0]);
      c.due(index + " higher", desk.collision(index, true), due[index][1]);
    }
    c.due("-1", () -> desk.collision(-1, false), NSE);
    c.due("one too many", () -> desk.collision(due.length, true), NSE);
  }

  private static void promise14Order() {
    c.part("14 order");
    AbbreviationDesk desk = new AbbreviationDesk();
    c.due("none", () -> desk.order(0), NSE);
    Checks.add(desk, 0, "a=abc", 1, 0);
    Checks.add(desk, 1, "a=abcd", 1, 0);
    Checks.add(desk, 2, "b=abc", 9, 0);
    Checks.add(desk, 2, "b=abc", 1, 0);
    int[] due = {2, 1, 0, 3};
    for (int better = 0; better < due.length; better++) {
      c.due("better " + better, desk.order(better), due[better]);
    }
    c.due("-1", () -> desk.order(-1), NSE);
    c.due("4", () -> desk.order(4), NSE);
  }

  private static void promise15Shadow() {
    c.part("15 shadow");
    AbbreviationDesk desk = new AbbreviationDesk();
    c.due("none", () -> desk.shadow(0, true), IOOBE);
    Checks.add(desk, 0, "a=abc", 5, 3);  // 0
    Checks.add(desk, 0, "a=abd", 6, 2);  // 1: covers 0 by the short form
    Checks.add(desk, 0, "b=abc", 7, 3);  // 2: covers 0 by the long form
    Checks.add(desk, 1, "a=abc", 9, 0);  // 3: another kind
    Checks.add(desk, 0, "a=abc", 8, 1);  // 4: other places
    Checks.add(desk, 0, "a=abc", 5, 0);  // 5: everywhere, but not better than 0
    c.due("0 short", desk.shadow(0, false), 1);
    c.due("0 long", desk.shadow(0, true), 2);
    c.due("5 short", desk.shadow(5, false), -1);
    c.due("3", desk.shadow(3, true), -1);
    c.due("rule -1", () -> desk.shadow(-1, true), IOOBE);
    c.due("rule 6", () -> desk.shadow(6, true), IOOBE);
    desk.setPriority(5, 50);
    c.due("0 short, two cover", desk.shadow(0, false), 5);
    c.due("0 long, two cover", desk.shadow(0, true), 5);
    c.due("4 by everywhere", desk.shadow(4, false), 5);
    c.due("1 by everywhere", desk.shadow(1, false), 5);
    c.due("1 by long", desk.shadow(1, true), -1);
    desk.setContext(5, 2);
    c.due("4 not by the others", desk.shadow(4, false), -1);
    desk.setContext(0, 0);
    c.due("0 everywhere", desk.shadow(0, true), -1);
    desk.clear();
    Checks.add(desk, 0, "a=abc", 9, 0);
    Checks.add(desk, 0, "a=abc", 7, 0);
    Checks.add(desk, 0, "a=abc", 5, 0);
    c.due("by the rule 0", desk.shadow(1, true), 0);
    c.due("by two rules", desk.shadow(2, true), 0);
  }

  private static void promise16LetterCount() {
    c.part("16 letterCount");
    AbbreviationDesk desk = new AbbreviationDesk();
    c.due("none", desk.letterCount('a', true), 0);
    Checks.add(desk, 0, "aza=azzza", 5, 3);
    Checks.add(desk, 2, "z=za", 5, 3);
    c.due("short a", desk.letterCount('a', false), 2);
    c.due("short z", desk.letterCount('z', false), 2);
    c.due("long a", desk.letterCount('a', true), 3);
    c.due("long z", desk.letterCount('z', true), 4);
    c.due("long m", desk.letterCount('m', true), 0);
    for (char wrong : new char[] {'`', '{', 'A', ' ', 0, 0xffff}) {
      c.due("letter " + (int) wrong, () -> desk.letterCount(wrong, true), IAE);
    }
  }

  private static void promise17Saving() {
    c.part("17 saving");
    AbbreviationDesk desk = new AbbreviationDesk();
    c.due("none", desk.saving(-1), 0);
    Checks.add(desk, 0, "a=abc", 5, 3);
    Checks.add(desk, 1, "a=abcd", 5, 3);
    Checks.add(desk, 2, "a=abcdefghijkl", 5, 3);
    Checks.add(desk, 2, "ab=abc", 5, 3);
    c.due("all", desk.saving(-1), 2 + 6 + 22 + 2);
    c.due("words", desk.saving(0), 2);
    c.due("beginnings", desk.saving(1), 6);
    c.due("ends", desk.saving(2), 24);
    c.due("-2", () -> desk.saving(-2), IAE);
    c.due("3", () -> desk.saving(3), IAE);
  }

  private static void promise18Learn() {
    c.part("18 learn");
    AbbreviationDesk desk = new AbbreviationDesk();
    c.due("new", Checks.learn(desk, "t w t=the with the"), 1);
    c.due("buffer empty", desk.count(5), 0);
    c.due("state", Checks.state(desk), "0 t=the 20 0; 2,1,3,0; 1,1,4,-1; m1 t2");
    c.due("one command", desk.count(7), 1);
    c.due("beyond the threshold", Checks.learn(desk, "t=the"), 0);
    desk.setThreshold(3);
    c.due("equal again", Checks.learn(desk, "w=with"), 0);
    c.due("now equal", Checks.learn(desk, "w=with"), 1);
    c.due("priority", desk.rule(1, 1), 30);
    desk.removeRule(0);
    c.due("count 4 of 3", Checks.learn(desk, "t=the"), 0);
    desk.setThreshold(5);
    c.due("becomes 5", Checks.learn(desk, "t=the"), 1);
    c.due("passed over", Checks.learn(desk,
        "abc abc abcdefg a ab=abc ab abcdefgh abcdefghijklm abc"), 0);
    c.due("pairs", desk.count(1), 3);
    desk.setThreshold(1);
    c.due("at once", Checks.learn(desk, "x abcdef=xx abcdefghijkl"), 2);
    c.due("priority 10", desk.rule(desk.count(0) - 1, 1), 10);
    Checks.add(desk, 0, "q=quo", 3, 4);
    Checks.add(desk, 1, "r=ruo", 3, 0);
    c.due("prevented by any context, not by other kinds", Checks.learn(desk, "q r=quo ruo"), 1);
    desk.setThreshold(9);
    c.due("nine times", Checks.learn(desk, "y y y y y y y y y y=ye ye ye ye ye ye ye ye ye ye"), 1);
    c.due("priority 90", desk.rule(desk.count(0) - 1, 1), 90);
    c.due("replayed", desk.isReplayed(), true);
    Checks.type(desk, "x=y=");
    c.due("malformed", () -> desk.learn(), IAE);
    c.due("emptied", desk.count(5), 0);
    c.due("position", desk.errorPosition(), 3);
    desk.clear();
    desk.setThreshold(1);
    Checks.add(desk, 0, "q=quo", 3, 4);
    c.due("prevented by the rule 0", Checks.learn(desk, "q=quo"), 0);
    Checks.expanded(desk, "'a");
    Checks.type(desk, "a 'a=ab ab");
    c.due("no marks after expanding", () -> desk.learn(), IAE);
  }

  private static void promise18LearnLimits() {
    c.part("18 limits");
    AbbreviationDesk desk = new AbbreviationDesk();
    for (int pair = 0; pair < 30; pair++) {
      String word = (char) ('a' + pair % 26) + (pair < 26 ? "" : "x");
      c.due("pair " + pair, Checks.learn(desk, word + "=" + word + "yy"), 0);
    }
    c.due("pairs", desk.count(1), 30);
    c.due("two more", Checks.learn(desk, "q q a=quu quu ayy"), 1);
    c.due("pairs stay", desk.count(1), 30);
    c.due("known one", desk.pair(0, 0), 2);
    for (int rule = 1; rule < 24; rule++) {
      Checks.add(desk, 0, "z=zz", 0, 0);
    }
    c.due("no room for a rule", Checks.learn(desk, "b=byy"), 0);
    c.due("but counted", desk.pair(1, 0), 2);
    desk.removeRule(0);
    c.due("count is beyond", Checks.learn(desk, "b=byy"), 0);
    c.due("room for one of two", Checks.learn(desk, "c d=cyy dyy"), 1);
    c.due("replayed", desk.isReplayed(), true);
    c.due("clear", desk.clear(), 24);
    c.due("pairs gone", desk.count(1), 0);
  }

  private static void promise18ErrorPositions() {
    c.part("18 error positions");
    String word = "abcdefghijklmnopqrstuvwx";
    Object[][] texts = {
      {"", 0}, {"=", 0}, {" a=b", 0}, {"a", 1}, {"a ", 2}, {"a =b c", 2}, {"a b", 3}, {"a  b=c d", 2}, {"'a=b", 0},
      {"a b=", 4}, {"a b=c", 5}, {"a b=c ", 6}, {"a b=c  d", 6}, {"a b=c d ", 7}, {"a b=c d e", 7}, {"a=b ", 3},
      {"a=b=c", 3}, {"a==b", 2}, {"a= b", 2}, {"a b=c=", 5}, {"a=b'", 3}, {"a='b", 2}, {"a=B", 2}, {"a-b=c d", 1},
      {word + "y", 24}, {word + "y=a", 24}, {"a=" + word + "y", 26}, {"a b=" + word + "y z", 28}, {word, 24},
    };
    for (Object[] text : texts) {
      AbbreviationDesk desk = new AbbreviationDesk();
      Checks.type(desk, (String) text[0]);
      c.due("'" + text[0] + "'", () -> desk.learn(), IAE);
      c.due("position of '" + text[0] + "'", () -> desk.errorPosition(), text[1]);
    }
    for (String text : new String[] {"a=a", "a b=c d", word + "=a", "a=" + word, "a " + word + "=" + word + " b"}) {
      AbbreviationDesk desk = new AbbreviationDesk();
      Checks.type(desk, text);
      c.due("'" + text + "'", () -> desk.learn(), 0);
      c.due("pairs of '" + text + "'", desk.count(1), 0);
      c.due("a command all the same", desk.count(7), 1);
    }
  }

  private static void promise19Pair() {
    c.part("19 pair");
    AbbreviationDesk desk = new AbbreviationDesk();
    c.due("no pair before what", () -> desk.pair(0, 4), IOOBE);
    Checks.add(desk, 1, "t=the", 1, 0);
    Checks.add(desk, 0, "t=tha", 1, 0);
    Checks.learn(desk, "t ab=the abcdef");
    c.due("count", desk.pair(0, 0), 1);
    c.due("short", desk.pair(1, 1), 2);
    c.due("long", desk.pair(1, 2), 6);
    c.due("no rule", desk.pair(0, 3), -1);
    Checks.add(desk, 0, "t=the", 1, 3);
    Checks.add(desk, 0, "t=the", 9, 0);
    c.due("lowest rule", desk.pair(0, 3), 2);
    c.due("what -1", () -> desk.pair(0, -1), IAE);
    c.due("what 4", () -> desk.pair(0, 4), IAE);
    c.due("pair -1", () -> desk.pair(-1, 0), IOOBE);
    c.due("pair 2", () -> desk.pair(2, 0), IOOBE);
  }

  private static AbbreviationDesk deskInMode(int mode) {
    AbbreviationDesk desk = new AbbreviationDesk();
    desk.setMode(mode);
    return desk;
  }

  private static void promise20AbbreviateForms() {
    c.part("20 short forms");
    AbbreviationDesk desk = deskInMode(0);
    Checks.add(desk, 1, "x=abc", 5, 0);
    Checks.add(desk, 2, "y=cde", 5, 0);
    Checks.add(desk, 2, "z=de", 5, 0);
    Checks.add(desk, 0, "w=abcd", 0, 0);
    c.due("word before beginnings", Checks.abbreviated(desk, "abcd"), "w");
    c.due("beginning", Checks.abbreviated(desk, "abcq"), "xq");
    c.due("not proper", Checks.abbreviated(desk, "abc de"), "abc de");
    c.due("end", Checks.abbreviated(desk, "qde"), "qz");
    c.due("longer end is better", Checks.abbreviated(desk, "qcde"), "qy");
    c.due("both overlap: first is better", Checks.abbreviated(desk, "abcde"), "xde");
    c.due("both overlap: end with the number 0", endZero(), "xde");
    c.due("exactly as many letters", Checks.abbreviated(desk, "abccde"), "xy");
    c.due("more letters", Checks.abbreviated(desk, "abcqcde"), "xqy");
    desk.setPriority(1, 6);
    c.due("both overlap: end is better", Checks.abbreviated(desk, "abcde"), "aby");
    desk.setPriority(2, 7);
    c.due("best end with room", Checks.abbreviated(desk, "abcde"), "xz");
    c.due("nothing found", Checks.abbreviated(desk, "q"), "q");
    String longest = "abcdefghijklmnopqrstuvwx";
    c.due("24 letters", Checks.abbreviated(desk, longest), "x" + longest.substring(3));
    Checks.add(desk, 0, "v=abcd", 1, 0);
    c.due("better word rule", Checks.abbreviated(desk, "abcd"), "v");
    Checks.type(desk, "abcd q");
    c.due("characters", desk.abbreviate(), 3);
    c.due("buffer empty", desk.count(5), 0);
    c.due("no command", desk.count(7), 8);
    Checks.type(desk, "abcd Q");
    c.due("malformed", () -> desk.abbreviate(), IAE);
    c.due("emptied", desk.count(5), 0);
    c.due("position", desk.errorPosition(), 5);
    c.due("result stays", Checks.output(desk), "v q");
  }

  private static String endZero() {
    AbbreviationDesk desk = deskInMode(0);
    Checks.add(desk, 2, "y=cde", 5, 0);
    Checks.add(desk, 1, "x=abc", 6, 0);
    return Checks.abbreviated(desk, "abcde");
  }

  private static void promise20AbbreviateContexts() {
    c.part("20 contexts");
    String[] due = {"x oo x ot x", "x oo word ot word", "word oo x ot x", "word oo x ot word", "word oo word ot x"};
    for (int context = 0; context <= 4; context++) {
      AbbreviationDesk desk = deskInMode(0);
      Checks.add(desk, 0, "x=word", 5, context);
      c.due("context " + context, Checks.abbreviated(desk, "word oo word ot word"), due[context]);
      for (char letter = 'a'; letter <= 'z'; letter++) {
        boolean isVowel = "aeiou".indexOf(letter) >= 0;
        boolean fits = context == 0 || context == 2 || context == (isVowel ? 3 : 4);
        c.due("context " + context, Checks.abbreviated(desk, letter + " word"), letter + (fits ? " x" : " word"));
      }
    }
    AbbreviationDesk desk = deskInMode(0);
    Checks.add(desk, 0, "x=so", 5, 0);
    Checks.add(desk, 0, "w=word", 5, 3);
    c.due("behind the word given, not what it became", Checks.abbreviated(desk, "so word"), "x w");
    Checks.add(desk, 0, "v=word", 4, 0);
    c.due("best of those that fit", Checks.abbreviated(desk, "word so word"), "v x w");
  }

  private static void promise20AbbreviateModes() {
    c.part("20 modes");
    AbbreviationDesk desk = new AbbreviationDesk();
    Checks.add(desk, 0, "t=the", 5, 0);
    Checks.add(desk, 0, "t=that", 4, 0);
    Checks.add(desk, 2, "g=ing", 4, 0);
    Checks.add(desk, 0, "tha=thing", 4, 0);
    String text = "the that t thing going dog tha q";
    c.due("mode 1", Checks.abbreviated(desk, text), "t that 't tha gog 'dog 'tha q");
    c.due("words", Checks.words(desk), "1,0,-1,3,1,0;6,-1,-1,4,4,2;5,-1,-1,1,1,7;1,3,-1,5,3,10;3,-1,2,5,3,14;"
        + "5,-1,-1,3,3,18;5,-1,-1,3,3,23;0,-1,-1,1,1,28;");
    desk.takeBack();
    desk.expand();
    c.due("and back", Checks.output(desk), text);
    desk.setMode(0);
    c.due("mode 0", Checks.abbreviated(desk, text), "t t t tha gog dog tha q");
    desk.setMode(1);
    c.due("beginning with the number 0", beginningZero(), "2,0,-1,3,2,0;");
    desk.setContext(0, 2);
    c.due("restored at the same place", Checks.abbreviated(desk, "that that"), "t that");
    desk.clear();
    Checks.add(desk, 0, "t=she", 5, 0);
    Checks.add(desk, 0, "t=the", 4, 0);
    Checks.add(desk, 0, "t=sha", 3, 0);
    c.due("words that differ by one letter", Checks.abbreviated(desk, "the sha she"), "the sha t");
  }

  private static String beginningZero() {
    AbbreviationDesk desk = new AbbreviationDesk();
    Checks.add(desk, 1, "u=un", 5, 0);
    Checks.abbreviated(desk, "uno");
    return Checks.words(desk);
  }

  private static void promise20ErrorPositions() {
    c.part("20 error positions");
    String word = "abcdefghijklmnopqrstuvwx";
    Object[][] texts = {
      {"", 0}, {" ", 0}, {"a ", 2}, {"a  b", 2}, {"'a", 0}, {"a 'b", 2}, {"a=b", 1}, {"A", 0}, {"a1", 1},
      {word + "y", 24}, {"a " + word + "y b", 26}, {"a{", 1}, {"a`", 1},
    };
    for (Object[] text : texts) {
      for (int call = 0; call < 2; call++) {
        boolean isLost = call == 1;
        AbbreviationDesk desk = new AbbreviationDesk();
        Checks.type(desk, (String) text[0]);
        c.due("'" + text[0] + "'", () -> isLost ? desk.firstLost() : desk.abbreviate(), IAE);
        c.due("position of '" + text[0] + "'", () -> desk.errorPosition(), text[1]);
        c.due("buffer", desk.count(5), isLost ? ((String) text[0]).length() : 0);
        c.due("no result", () -> desk.result(0), ISE);
      }
    }
  }

  private static void promise21Expand() {
    c.part("21 expand");
    AbbreviationDesk desk = new AbbreviationDesk();
    Checks.add(desk, 0, "t=the", 5, 0);
    Checks.add(desk, 1, "u=un", 5, 0);
    Checks.add(desk, 2, "g=ing", 5, 0);
    c.due("words", Checks.expanded(desk, "t 't ug u g x"), "the t uning u g x");
    c.due("numbers", Checks.words(desk), "1,0,-1,1,3,0;5,-1,-1,1,1,4;4,1,2,2,5,6;0,-1,-1,1,1,12;0,-1,-1,1,1,14;"
        + "0,-1,-1,1,1,16;");
    c.due("beginning", Checks.expanded(desk, "ux"), "unx");
    c.due("end", Checks.expanded(desk, "xg"), "xing");
    Checks.type(desk, "t ug");
    c.due("characters", desk.expand(), 9);
    c.due("buffer empty", desk.count(5), 0);
    Checks.add(desk, 1, "ab=abx", 6, 0);
    Checks.add(desk, 2, "bc=xbc", 5, 0);
    c.due("overlap by short forms", Checks.expanded(desk, "abc"), "abxc");
    c.due("just as many letters", Checks.expanded(desk, "abbc"), "abxxbc");
    desk.setPriority(4, 7);
    c.due("the end is better", Checks.expanded(desk, "abc"), "axbc");
    Checks.add(desk, 0, "so=soon", 5, 0);
    Checks.add(desk, 0, "x=xa", 5, 0);
    Checks.add(desk, 0, "w=wax", 9, 3);
    Checks.add(desk, 0, "w=wbx", 9, 4);
    Checks.add(desk, 0, "w=wcx", 9, 1);
    c.due("behind what came of the word before", Checks.expanded(desk, "w w so w x w 'so w"),
        "wcx wbx soon wbx xa wax so wax");
  }

  private static void promise21ExpandLongWords() {
    c.part("21 long words");
    AbbreviationDesk desk = new AbbreviationDesk();
    Checks.add(desk, 1, "a=abcdefghijkl", 5, 0);
    Checks.add(desk, 2, "b=abcdefghijkl", 5, 0);
    c.due("longer than 24", Checks.expanded(desk, "acccccccccccccccccccccb"), "abcdefghijkl" + "ccccccccccccccccccccc"
        + "abcdefghijkl");
    c.due("24 letters", Checks.expanded(desk, "accccccccccccccccccccccb").length(), 46);
    Checks.type(desk, Desks.times(33, "ab", " "));
    c.due("longest result", desk.expand(), 33 * 24 + 32);
    c.due("its last character", desk.output(823), 'l');
    c.due("too long to take back", () -> desk.takeBack(), UOE);
    Checks.type(desk, "a=b");
    c.due("malformed", () -> desk.expand(), IAE);
    c.due("emptied", desk.count(5), 0);
    c.due("result stays", desk.result(0), 33);
    String fifty = Desks.times(50, "a", " ");
    AbbreviationDesk other = new AbbreviationDesk();
    c.due("fifty words", Checks.expanded(other, fifty), fifty);
    c.due("fifty", other.result(0), 50);
  }

  private static void promise21ErrorPositions() {
    c.part("21 error positions");
    String word = "abcdefghijklmnopqrstuvwx";
    Object[][] texts = {
      {"", 0}, {"'", 1}, {"''", 1}, {"''a", 1}, {"' a", 1}, {"a'", 1}, {"a'b", 1}, {"'a'b", 2}, {"a '", 3},
      {"a ", 2}, {"'a ", 3}, {"a  'b", 2}, {"'A", 1}, {"'" + word + "y", 25}, {"'a=b", 2},
    };
    for (Object[] text : texts) {
      AbbreviationDesk desk = new AbbreviationDesk();
      Checks.type(desk, (String) text[0]);
      c.due("'" + text[0] + "'", () -> desk.expand(), IAE);
      c.due("position of '" + text[0] + "'", () -> desk.errorPosition(), text[1]);
    }
    AbbreviationDesk desk = new AbbreviationDesk();
    c.due("marked words", Checks.expanded(desk, "'a b 'c '" + word), "a b c " + word);
  }

  private static void promise22ErrorPosition() {
    c.part("22 errorPosition");
    AbbreviationDesk desk = new AbbreviationDesk();
    c.due("none", () -> desk.errorPosition(), NSE);
    Checks.type(desk, "ab=");
    Checks.answer(() -> desk.addRule(0, 0, 0));
    c.due("first", desk.errorPosition(), 3);
    Checks.add(desk, 0, "a=ab", 0, 0);
    Checks.abbreviated(desk, "ab");
    c.due("right texts leave it", desk.errorPosition(), 3);
    desk.undo();
    desk.clear();
    c.due("clear leaves it", desk.errorPosition(), 3);
    Checks.answer(() -> desk.expand());
    c.due("another", desk.errorPosition(), 0);
  }

  private static void promise23Output() {
    c.part("23 output");
    AbbreviationDesk desk = new AbbreviationDesk();
    c.due("no result before index", () -> desk.output(-1), ISE);
    Checks.add(desk, 0, "t=the", 0, 0);
    c.due("text", Checks.abbreviated(desk, "the t"), "t 't");
    c.due("-1", () -> desk.output(-1), IOOBE);
    c.due("4", () -> desk.output(4), IOOBE);
    c.due("3", () -> desk.output(3), 't');
    c.due("2", () -> desk.output(2), '\'');
    desk.removeRule(0);
    c.due("stays", Checks.output(desk), "t 't");
  }

  private static void promise24TakeBack() {
    c.part("24 takeBack");
    AbbreviationDesk desk = new AbbreviationDesk();
    c.due("no result", () -> desk.takeBack(), ISE);
    Checks.add(desk, 0, "t=the", 0, 0);
    Checks.abbreviated(desk, "the t");
    Checks.type(desk, "zzz");
    c.due("in place", desk.takeBack(), 4);
    c.due("buffer", desk.count(5), 4);
    c.due("twice", desk.takeBack(), 4);
    desk.expand();
    c.due("expanded", Checks.output(desk), "the t");
    c.due("101 characters", Checks.abbreviated(desk, "t ".repeat(33) + "t").length(), 101);
    Checks.type(desk, "zz");
    c.due("too many", () -> desk.takeBack(), UOE);
    c.due("buffer stays", desk.count(5), 2);
    desk.removeRule(0);
    Checks.type(desk, "z".repeat(22) + (" " + "z".repeat(24)).repeat(3));
    c.due("99", desk.abbreviate(), 99);
    c.due("99 back", desk.takeBack(), 99);
    desk.abbreviate();
    Checks.type(desk, ("z".repeat(24) + " ").repeat(3) + "z".repeat(23) + " z");
    c.due("100", desk.abbreviate(), 100);
    c.due("100 back", desk.takeBack(), 100);
    AbbreviationDesk other = new AbbreviationDesk();
    Checks.add(other, 0, "z=zz", 0, 0);
    Checks.expanded(other, ("z".repeat(24) + " ").repeat(3) + "z".repeat(22) + " z");
    c.due("100 by expanding", () -> other.takeBack(), 100);
    Checks.answer(() -> other.abbreviate());
    Checks.expanded(other, ("z".repeat(24) + " ").repeat(3) + "z".repeat(23) + " z");
    c.due("101 by expanding", () -> other.takeBack(), UOE);
  }

  private static void promise25Word() {
    c.part("25 word");
    AbbreviationDesk desk = new AbbreviationDesk();
    c.due("no result before word", () -> desk.word(-1, 9), ISE);
    Checks.add(desk, 2, "g=ing", 3, 0);
    Checks.add(desk, 0, "t=the", 3, 0);
    Checks.add(desk, 1, "u=un", 3, 0);
    Checks.add(desk, 0, "t=that", 2, 0);
    c.due("text", Checks.abbreviated(desk, "the unding under going that t x"), "t udg uder gog that 't x");
    c.due("words", Checks.words(desk), "1,1,-1,3,1,0;4,2,0,6,3,2;2,2,-1,5,4,6;3,-1,0,5,3,11;6,-1,-1,4,4,15;"
        + "5,-1,-1,1,1,20;0,-1,-1,1,1,23;");
    desk.removeRule(0);
    c.due("numbers of then", desk.word(1, 2), 0);
    c.due("word -1", () -> desk.word(-1, 9), IOOBE);
    c.due("word 7", () -> desk.word(7, 0), IOOBE);
    c.due("what -1", () -> desk.word(0, -1), IAE);
    c.due("what 6", () -> desk.word(0, 6), IAE);
  }

  private static void promise26Result() {
    c.part("26 result");
    AbbreviationDesk desk = new AbbreviationDesk();
    c.due("no result before what", () -> desk.result(9), ISE);
    Checks.add(desk, 2, "g=ing", 3, 0);
    Checks.add(desk, 0, "t=the", 3, 0);
    Checks.add(desk, 1, "u=un", 3, 0);
    Checks.add(desk, 0, "t=that", 2, 0);
    Checks.abbreviated(desk, "the unding that t x");
    int[] due = {5, 15, 19, 3, 1, 1};
    for (int what = 0; what < due.length; what++) {
      c.due("what " + what, desk.result(what), due[what]);
    }
    Checks.expanded(desk, "t udg 't x");
    int[] dueThen = {4, 14, 10, 3, 0, 0};
    for (int what = 0; what < dueThen.length; what++) {
      c.due("expanded, what " + what, desk.result(what), dueThen[what]);
    }
    c.due("-1", () -> desk.result(-1), IAE);
    c.due("6", () -> desk.result(6), IAE);
  }

  private static void promise27FirstLost() {
    c.part("27 firstLost");
    AbbreviationDesk desk = new AbbreviationDesk();
    c.due("empty buffer", () -> desk.firstLost(), IAE);
    Checks.add(desk, 0, "t=the", 3, 0);
    Checks.add(desk, 0, "t=that", 2, 0);
    Checks.abbreviated(desk, "the");
    Checks.type(desk, "x the that t");
    c.due("mode 1", desk.firstLost(), -1);
    c.due("buffer stays", desk.count(5), 12);
    c.due("result stays", Checks.output(desk), "t");
    desk.setMode(0);
    c.due("mode 0", desk.firstLost(), 2);
    desk.abbreviate();
    Checks.type(desk, "t");
    c.due("first word", desk.firstLost(), 0);
    desk.abbreviate();
    Checks.type(desk, "the x the");
    c.due("none in mode 0", desk.firstLost(), -1);
    desk.abbreviate();
    desk.setContext(1, 4);
    desk.setPriority(1, 50);
    Checks.type(desk, "x that a the so the");
    c.due("places in mode 0", desk.firstLost(), -1);
    desk.abbreviate();
    Checks.type(desk, "a the at the");
    c.due("lost at a place", desk.firstLost(), 3);
    c.due("commands", desk.count(7), 5);
  }

  private static void promise28Share() {
    c.part("28 share");
    AbbreviationDesk desk = new AbbreviationDesk();
    c.due("no result", () -> desk.share(), ISE);
    Checks.add(desk, 0, "t=the", 3, 0);
    Checks.abbreviated(desk, "the x y");
    c.due("5 of 7", desk.share(), 5.0 / 7.0);
    Checks.expanded(desk, "t 'x");
    c.due("5 of 4", desk.share(), 5.0 / 4.0);
  }

  private static void promise29MeanPriority() {
    c.part("29 meanPriority");
    AbbreviationDesk desk = new AbbreviationDesk();
    c.due("no result", () -> desk.meanPriority(), ISE);
    Checks.abbreviated(desk, "x");
    c.due("no rule", () -> desk.meanPriority(), "ArithmeticException");
    Checks.add(desk, 0, "t=the", 20, 0);
    Checks.add(desk, 2, "g=ing", 31, 0);
    Checks.add(desk, 1, "u=un", 0, 0);
    Checks.abbreviated(desk, "the unding x");
    c.due("three uses", desk.meanPriority(), 51f / 3f);
    desk.setPriority(0, 90);
    desk.removeRule(1);
    c.due("priorities of then", desk.meanPriority(), 17f);
    Checks.abbreviated(desk, "the");
    c.due("one use", desk.meanPriority(), 90f);
    Checks.expanded(desk, "t t ux");
    c.due("180 by 3", desk.meanPriority(), 60f);
    Checks.abbreviated(desk, "t");
    c.due("marked words use none", () -> desk.meanPriority(), "ArithmeticException");
    desk.setPriority(0, 1);
    Checks.abbreviated(desk, "the the unx");
    c.due("2 by 3", desk.meanPriority(), 2f / 3f);
  }

  private static void promise30StoreLengths() {
    c.part("30 storeLengths");
    AbbreviationDesk desk = new AbbreviationDesk();
    c.due("row before result", () -> desk.storeLengths(2, true), IOOBE);
    c.due("row -1", () -> desk.storeLengths(-1, true), IOOBE);
    c.due("no result", () -> desk.storeLengths(0, true), ISE);
    Checks.add(desk, 0, "t=the", 20, 0);
    Checks.abbreviated(desk, "the t abcdefg");
    c.due("ints", desk.storeLengths(0, true), 3);
    c.due("floats", desk.storeLengths(1, false), 3);
    float[] ints = {1f, 1f, 7f};
    float[] floats = {1f / 3f, 1f, 1f};
    for (int index = 0; index < 3; index++) {
      c.due("int " + index, desk.storedBits(0, index), Float.floatToIntBits(ints[index]));
      c.due("float " + index, desk.storedBits(1, index), Float.floatToIntBits(floats[index]));
    }
    Checks.abbreviated(desk, "x");
    c.due("shorter", desk.storeLengths(0, true), 1);
    c.due("old ones are gone", () -> desk.storedBits(0, 1), NSE);
    c.due("the other stays", desk.storedBits(1, 2), Float.floatToIntBits(1f));
  }

  private static void promise31CopyLengths() {
    c.part("31 copyLengths");
    AbbreviationDesk desk = new AbbreviationDesk();
    c.due("row -1", () -> desk.copyLengths(-1, -1), IOOBE);
    c.due("row 2", () -> desk.copyLengths(2, -1), IOOBE);
    c.due("no rows", () -> desk.copyLengths(0, -1), NSE);
    Checks.abbreviated(desk, "a bb ccc");
    desk.storeLengths(0, true);
    c.due("one row", () -> desk.copyLengths(0, -1), NSE);
    c.due("the other row", () -> desk.copyLengths(1, -1), NSE);
    desk.storeLengths(1, false);
    c.due("types before count", () -> desk.copyLengths(0, -1), UOE);
    Checks.abbreviated(desk, "a ccc bb dddd");
    desk.storeLengths(1, true);
    c.due("count -1", () -> desk.copyLengths(0, -1), IAE);
    c.due("count 4", () -> desk.copyLengths(0, 4), IAE);
    c.due("count 4 the other way", () -> desk.copyLengths(1, 4), IAE);
    c.due("count 0", () -> desk.copyLengths(0, 0), false);
    c.due("count 1", () -> desk.copyLengths(0, 1), false);
    c.due("count 2", () -> desk.copyLengths(0, 2), true);
    c.due("again", () -> desk.copyLengths(0, 2), false);
    float[] due = {1f, 2f, 2f, 4f};
    for (int index = 0; index < due.length; index++) {
      c.due("element " + index, desk.storedBits(1, index), Float.floatToIntBits(due[index]));
    }
    c.due("back", () -> desk.copyLengths(1, 3), true);
    c.due("element", desk.storedBits(0, 2), Float.floatToIntBits(2f));
    Checks.abbreviated(desk, "aaa");
    desk.storeLengths(0, true);
    c.due("element 0 changes", () -> desk.copyLengths(0, 1), true);
    c.due("element 0", desk.storedBits(1, 0), Float.floatToIntBits(3f));
    Checks.add(desk, 0, "t=the", 20, 0);
    Checks.abbreviated(desk, "the t");
    desk.storeLengths(0, false);
    Checks.abbreviated(desk, "the the");
    desk.storeLengths(1, false);
    c.due("floats", () -> desk.copyLengths(1, 1), false);
    c.due("floats change", () -> desk.copyLengths(1, 2), true);
    c.due("float", desk.storedBits(0, 1), Float.floatToIntBits(1f / 3f));
    desk.storeLengths(0, true);
    desk.storeLengths(1, true);
    c.due("ints of the new row", () -> desk.copyLengths(0, 2), false);
  }

  private static void promise32StoredBits() {
    c.part("32 storedBits");
    AbbreviationDesk end = new AbbreviationDesk();
    c.due("row -1", () -> end.storedBits(-1, 0), IOOBE);
    c.due("row 2", () -> end.storedBits(2, 0), IOOBE);
    c.due("not stored", () -> end.storedBits(1, 0), NSE);
    for (int from = 1; from <= 6; from++) {
      for (int to = from + 1; to <= 12; to++) {
        AbbreviationDesk desk = new AbbreviationDesk();
        Checks.add(desk, 0, "abcdef".substring(0, from) + "=" + "bcdefghijklm".substring(0, to), 0, 0);
        Checks.abbreviated(desk, "bcdefghijklm".substring(0, to));
        desk.storeLengths(0, false);
        c.due(from + "/" + to, desk.storedBits(0, 0), Float.floatToIntBits((float) from / (float) to));
        Checks.expanded(desk, "abcdef".substring(0, from));
        desk.storeLengths(1, false);
        c.due(to + "/" + from, desk.storedBits(1, 0), Float.floatToIntBits((float) to / (float) from));
      }
    }
    for (int length = 1; length <= 24; length++) {
      AbbreviationDesk desk = new AbbreviationDesk();
      Checks.abbreviated(desk, "bcdefghijklmnopqrstuvwxyz".substring(0, length));
      desk.storeLengths(0, true);
      c.due("length " + length, desk.storedBits(0, 0), Float.floatToIntBits((float) length));
    }
    Checks.abbreviated(end, "b");
    end.storeLengths(0, true);
    c.due("index -1", () -> end.storedBits(0, -1), NSE);
    c.due("index 1", () -> end.storedBits(0, 1), NSE);
  }

  private static void promise33Undo() {
    c.part("33 undo");
    AbbreviationDesk desk = new AbbreviationDesk();
    c.due("none", () -> desk.undo(), ISE);
    String[] states = new String[12];
    for (int number = 0; number < 10; number++) {
      states[number] = Checks.state(desk);
      if (number % 5 == 0) {
        Checks.add(desk, number % 3, "t=the", number, 0);
      } else if (number % 5 == 1) {
        Checks.learn(desk, "w v=with vith");
      } else if (number % 5 == 2) {
        desk.setThreshold(3);
      } else if (number % 5 == 3) {
        desk.removeRule(0);
      } else {
        desk.setMode(number % 2);
      }
    }
    c.due("can", desk.count(6), 8);
    for (int left = 7; left >= 0; left--) {
      c.due("undo to " + left, desk.undo(), left);
      c.due("state", Checks.state(desk), states[left + 2]);
      c.due("commands", desk.count(7), left + 2);
      c.due("can", desk.count(6), left);
      c.due("replayed", desk.isReplayed(), true);
    }
    c.due("no more", () -> desk.undo(), ISE);
    desk.clear();
    Checks.add(desk, 0, "t=the", 1, 0);
    desk.setPriority(0, 2);
    desk.setContext(0, 3);
    c.due("context", desk.undo(), 2);
    c.due("it is back", desk.rule(0, 2), 0);
    c.due("priority", desk.undo(), 1);
    c.due("it is back", desk.rule(0, 1), 1);
    desk.setContext(0, 1);
    c.due("after an undo", desk.count(6), 2);
    Checks.answer(() -> desk.setContext(0, 9));
    c.due("a failed call is none", desk.count(6), 2);
  }

  private static void promise34IsReplayed() {
    c.part("34 isReplayed");
    AbbreviationDesk desk = new AbbreviationDesk();
    c.due("new", desk.isReplayed(), true);
    for (int number = 0; number < 14; number++) {
      Checks.add(desk, number % 3, "t=the", number, number % 5);
    }
    Checks.learn(desk, "w v=with vith");
    desk.removeRule(3);
    Checks.learn(desk, "w v=with vith");
    desk.setThreshold(1);
    desk.setMode(0);
    desk.undo();
    desk.undo();
    String state = Checks.state(desk);
    c.due("many", desk.isReplayed(), true);
    c.due("state stays", Checks.state(desk), state);
    c.due("commands stay", desk.count(7), 17);
    c.due("undos stay", desk.count(6), 6);
    desk.snapshot();
    desk.clear();
    c.due("cleared", desk.isReplayed(), true);
    desk.setMode(0);
    desk.restore();
    c.due("restored", desk.isReplayed(), true);
    desk.setMode(0);
    c.due("and more", desk.isReplayed(), true);
  }

  private static void promise35And36Snapshot() {
    c.part("35, 36 snapshot");
    AbbreviationDesk desk = new AbbreviationDesk();
    c.due("none", () -> desk.restore(), ISE);
    c.due("empty", desk.snapshot(), 0);
    Checks.add(desk, 0, "t=the", 1, 0);
    c.due("restored", desk.restore(), 0);
    c.due("no commands", desk.count(7), 0);
    c.due("no undos", () -> desk.undo(), ISE);
    Checks.add(desk, 0, "t=the", 1, 0);
    Checks.add(desk, 1, "u=un", 2, 3);
    Checks.learn(desk, "w=with");
    desk.setMode(0);
    String state = Checks.state(desk);
    c.due("replaces", desk.snapshot(), 2);
    desk.setThreshold(9);
    desk.removeRule(0);
    desk.undo();
    desk.setPriority(0, 50);
    Checks.learn(desk, "w=with");
    Checks.abbreviated(desk, "the");
    desk.storeLengths(0, true);
    Checks.type(desk, "zz");
    c.due("restored", desk.restore(), 2);
    c.due("state", Checks.state(desk), state);
    c.due("commands", desk.count(7), 4);
    c.due("undos", desk.count(6), 0);
    c.due("undo", () -> desk.undo(), ISE);
    c.due("result stays", Checks.output(desk), "t");
    c.due("row stays", desk.storedBits(0, 0), Float.floatToIntBits(1f));
    c.due("buffer stays", desk.count(5), 2);
    desk.setMode(1);
    c.due("new command", desk.undo(), 0);
    desk.clear();
    Checks.learn(desk, "ab=abcdef");
    Checks.add(desk, 2, "xx=yyy", 77, 4);
    c.due("again", desk.restore(), 2);
    c.due("the same", Checks.state(desk), state);
    c.due("the same pair", Checks.learn(desk, "w=with"), 1);
    desk.clear();
    desk.setMode(0);
    c.due("undo brings back", desk.undo(), 0);
    c.due("nothing", Checks.state(desk), "m1 t2");
  }

  /** No argument may bring out anything but what the document names. */
  private static void wrongArgumentsEverywhere() {
    c.part("wrong arguments");
    int[] numbers = {Integer.MIN_VALUE, -1000, -2, -1, 24, 30, 50, 100, 512, 1000, Integer.MAX_VALUE};
    AbbreviationDesk desk = new AbbreviationDesk();
    Checks.add(desk, 0, "t=the", 1, 0);
    Checks.learn(desk, "t=the");
    Checks.abbreviated(desk, "the");
    desk.storeLengths(0, true);
    desk.storeLengths(1, true);
    for (int number : numbers) {
      c.due("addRule", () -> desk.addRule(number, 0, 0), IOOBE);
      c.due("removeRule", () -> desk.removeRule(number), IOOBE);
      c.due("setPriority", () -> desk.setPriority(number, 0), IOOBE);
      c.due("setContext", () -> desk.setContext(number, 0), IOOBE);
      c.due("setContext", () -> desk.setContext(0, number), IAE);
      c.due("setMode", () -> desk.setMode(number), IAE);
      c.due("setThreshold", () -> desk.setThreshold(number), IAE);
      c.due("rule", () -> desk.rule(number, 0), IOOBE);
      c.due("rule", () -> desk.rule(0, number), IAE);
      c.due("letter", () -> desk.letter(number, true, 0), IOOBE);
      c.due("letter", () -> desk.letter(0, true, number), NSE);
      c.due("count", () -> desk.count(number), IAE);
      c.due("collision", () -> desk.collision(number, true), NSE);
      c.due("order", () -> desk.order(number), NSE);
      c.due("shadow", () -> desk.shadow(number, true), IOOBE);
      c.due("pair", () -> desk.pair(number, 0), IOOBE);
      c.due("pair", () -> desk.pair(0, number), IAE);
      c.due("output", () -> desk.output(number), IOOBE);
      c.due("word", () -> desk.word(number, 0), IOOBE);
      c.due("word", () -> desk.word(0, number), IAE);
      c.due("result", () -> desk.result(number), IAE);
      c.due("storeLengths", () -> desk.storeLengths(number, true), IOOBE);
      c.due("copyLengths", () -> desk.copyLengths(number, 0), IOOBE);
      c.due("copyLengths", () -> desk.copyLengths(0, number), IAE);
      c.due("storedBits", () -> desk.storedBits(number, 0), IOOBE);
      c.due("storedBits", () -> desk.storedBits(0, number), NSE);
      if (number != -1) {
        c.due("saving", () -> desk.saving(number), IAE);
      }
    }
  }
}
