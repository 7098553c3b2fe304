import java.util.function.Supplier;

/** The boundaries of the document's general part from learning on, sentence by sentence. */
final class DetailBoundaries {
  private static final String PART = "Description";
  private final Boundaries b;

  DetailBoundaries(Boundaries boundaries) {
    b = boundaries;
  }

  void run() {
    pairs();
    learning();
    rulesByLearning();
    collisions();
    buffer();
    errorPositions();
    commands();
    results();
    detailsOfForms();
    detailsOfResults();
    detailsOfLearning();
    detailsOfCommands();
    exceptions();
    orderOfExceptions();
    newObject();
  }

  private void learned(String text, int pairs) {
    AbbreviationDesk desk = new AbbreviationDesk();
    Checks.learn(desk, text);
    b.due("pairs of " + text, desk.count(1), pairs);
  }

  private void pairs() {
    b.at(PART, "A pair consists of a short form and a long form as they are allowed for a rule.", () -> {
      learned("b=cc", 1);
      learned("bcdefg=" + Desks.letters(12), 1);
      learned("bcdefgh=" + Desks.letters(12), 0);
      learned("b=" + Desks.letters(12), 1);
      learned("b=" + Desks.letters(13), 0);
      learned("b=c", 0);
      learned("bcdefg=zzzzzz", 0);
      learned("bcdefg=zzzzzzz", 1);
      learned("bc=d", 0);
      learned(Desks.letters(24) + "=" + Desks.letters(24), 0);
    });
    b.at(PART, "A text of pairs is a text without marked words, \"=\", and another such text with as many"
        + " words.", () -> {
      b.read("=", AbbreviationDesk::learn, 0);
      b.read("b", AbbreviationDesk::learn, 1);
      b.read("b=", AbbreviationDesk::learn, 2);
      b.read("=bb", AbbreviationDesk::learn, 0);
      b.read("b=cc", AbbreviationDesk::learn, -1);
      b.read("b=cc=dd", AbbreviationDesk::learn, 4);
      b.read("b c=dd", AbbreviationDesk::learn, 6);
      b.read("b c=dd ee", AbbreviationDesk::learn, -1);
      b.read("b c=dd ee ff", AbbreviationDesk::learn, 9);
      b.read(Desks.times(25, "b", " ") + "=" + Desks.times(24, "b", " "), AbbreviationDesk::learn, 97);
      b.read(Desks.times(25, "b", " ") + "=" + Desks.times(25, "b", " "), AbbreviationDesk::learn, -1);
      b.read(Desks.times(24, "b", " ") + "=" + Desks.times(25, "b", " "), AbbreviationDesk::learn, 95);
    });
    b.at(PART, "For each number, the word of the first text and that of the second one are a pair if they are allowed"
        + " as short and long form of a rule; otherwise they are passed over.", () -> {
      learned("b bcdefgh cc d=cc bcdefghi dd dd", 2);
      AbbreviationDesk desk = new AbbreviationDesk();
      Checks.learn(desk, "bcdefgh b ccc c=bcdefghi cc ddd ddddd");
      b.due("the first", desk.pair(0, 2), 2);
      b.due("the last", desk.pair(1, 2), 5);
      b.due("the call is a command", desk.count(7), 1);
    });
  }

  private void learning() {
    b.at(PART, "a pair that is known is counted once more", () -> {
      AbbreviationDesk desk = new AbbreviationDesk();
      Checks.learn(desk, "b b b=cc cc dd");
      b.due("pairs", desk.count(1), 2);
      b.due("twice in one text", desk.pair(0, 0), 2);
      b.due("another long form", desk.pair(1, 0), 1);
      Checks.learn(desk, "b c=cc cc");
      b.due("once more", desk.pair(0, 0), 3);
      b.due("another short form", desk.pair(2, 0), 1);
    });
    b.at(PART, "and a new one is known from then on, with the count 1, unless 30 pairs are known already, in which"
        + " case it is passed over.", () -> {
      AbbreviationDesk desk = Desks.withPairs(29);
      desk.setThreshold(1);
      b.due("the 30th makes a rule, the 31st none", Checks.learn(desk, "q r=qqq rrr"), 1);
      b.due("pairs", desk.count(1), 30);
      b.due("count of the 30th", desk.pair(29, 0), 1);
      b.due("no 31st", () -> desk.pair(30, 0), Boundaries.IOOBE);
      b.due("the 31st again", Checks.learn(desk, "r=rrr"), 0);
      b.due("pairs then", desk.count(1), 30);
      b.due("commands", desk.count(7), 5);
      Checks.learn(desk, "a r q=yya rrr qqq");
      b.due("the first is counted", desk.pair(0, 0), 2);
      b.due("the 30th is counted", desk.pair(29, 0), 2);
    });
    b.at(PART, "Pairs are numbered from 0 in the order in which they became known.", () -> {
      AbbreviationDesk desk = new AbbreviationDesk();
      Checks.learn(desk, "bb b=ccc ddd");
      Checks.learn(desk, "b bbb=ddd ddddd");
      int[] lengths = {2, 1, 3};
      for (int pair = 0; pair < 3; pair++) {
        b.due("pair " + pair, desk.pair(pair, 1), lengths[pair]);
      }
      AbbreviationDesk full = Desks.withPairs(30);
      full.setThreshold(2);
      for (int pair = 0; pair < 30; pair += 29) {
        int rule = Checks.learn(full, pair == 0 ? "a=yya" : "o=zzo");
        b.due("a rule of pair " + pair, rule, 1);
        b.due("its number is told", full.pair(pair, 3), full.count(0) - 1);
      }
    });
  }

  private void rulesByLearning() {
    b.at(PART, "Whenever the count of a pair becomes equal to the threshold", () -> {
      for (int threshold : new int[] {1, 2, 8, 9}) {
        AbbreviationDesk desk = new AbbreviationDesk();
        desk.setThreshold(threshold);
        for (int times = 1; times <= 10; times++) {
          b.due("threshold " + threshold + ", time " + times, Checks.learn(desk, "b=cc"), times == threshold ? 1 : 0);
          b.due("rules", desk.count(0), times >= threshold ? 1 : 0);
        }
      }
    });
    b.at(PART, "and there is no rule for words with this short form and this long form", () -> {
      AbbreviationDesk same = new AbbreviationDesk();
      same.setThreshold(1);
      Checks.add(same, 0, "b=cc", 0, 0);
      b.due("the same rule", Checks.learn(same, "b=cc"), 0);
      Object[][] others = {{1, "b=cc"}, {2, "b=cc"}, {0, "b=cd"}, {0, "b=ccc"}, {0, "c=cc"}};
      for (Object[] other : others) {
        AbbreviationDesk desk = new AbbreviationDesk();
        desk.setThreshold(1);
        Checks.add(desk, (Integer) other[0], (String) other[1], 0, 0);
        b.due("kind " + other[0] + ", " + other[1], Checks.learn(desk, "b=cc"), 1);
      }
      AbbreviationDesk removed = new AbbreviationDesk();
      Checks.add(removed, 0, "b=cc", 0, 0);
      Checks.learn(removed, "b=cc");
      removed.removeRule(0);
      b.due("the rule is gone", Checks.learn(removed, "b=cc"), 1);
    });
    b.at(PART, "and there are fewer than 24 rules, a rule for words is added", () -> {
      AbbreviationDesk desk = Desks.withRules(23);
      desk.setThreshold(1);
      b.due("two pairs, one rule", Checks.learn(desk, "y z=yyy zzz"), 1);
      b.due("rules", desk.count(0), 24);
      b.due("the 24th", desk.pair(0, 3), 23);
      b.due("no 25th", desk.pair(1, 3), -1);
      b.due("the pair is known", desk.pair(1, 0), 1);
      b.due("when there are 24", Checks.learn(desk, "x=xxx"), 0);
      b.due("this pair, too", desk.pair(2, 0), 1);
      desk.removeRule(0);
      b.due("a count beyond the threshold", Checks.learn(desk, "x=xxx"), 0);
      b.due("a new pair", Checks.learn(desk, "w=www"), 1);
    });
    b.at(PART, "with this short form and this long form, the context 0, and a priority of 10 times the"
        + " threshold.", () -> {
      for (int threshold : new int[] {1, 2, 9}) {
        AbbreviationDesk desk = new AbbreviationDesk();
        desk.setThreshold(threshold);
        for (int times = 0; times < threshold; times++) {
          Checks.learn(desk, "bcdefg=" + Desks.letters(12));
        }
        b.due("state", Checks.state(desk), "0 bcdefg=bcdefghijklm " + 10 * threshold + " 0; " + threshold
            + ",6,12,0; m1 t" + threshold);
      }
    });
  }

  private void collisions() {
    b.at(PART, "Two rules of the same kind with the same short form and different long forms collide if some place,"
        + " as the word 0, behind a vowel, or behind another letter, lets both fit.", () -> {
      int[][] due = {{1, 1, 1, 1, 1}, {1, 1, 0, 0, 0}, {1, 0, 1, 1, 1}, {1, 0, 1, 1, 0}, {1, 0, 1, 0, 1}};
      AbbreviationDesk desk = new AbbreviationDesk();
      Checks.add(desk, 0, "t=the", 0, 0);
      Checks.add(desk, 0, "t=tha", 0, 0);
      for (int low = 0; low <= 4; low++) {
        for (int high = 0; high <= 4; high++) {
          desk.setContext(0, low);
          desk.setContext(1, high);
          b.due("contexts " + low + " and " + high, desk.count(4), due[low][high]);
        }
      }
      Object[][] others = {{1, "t=tha"}, {2, "t=tha"}, {0, "u=tha"}, {0, "tt=tha"}, {0, "t=the"}};
      for (Object[] other : others) {
        AbbreviationDesk none = new AbbreviationDesk();
        Checks.add(none, 0, "t=the", 0, 0);
        Checks.add(none, (Integer) other[0], (String) other[1], 0, 0);
        b.due("with kind " + other[0] + ", " + other[1], none.count(4), 0);
      }
    });
    b.at(PART, "Collisions are ordered by the lower number of the two rules, and then by the higher one.", () -> {
      AbbreviationDesk desk = new AbbreviationDesk();
      for (int rule = 0; rule < 4; rule++) {
        Checks.add(desk, 2, "t=th" + (char) ('z' - rule), 9 * rule, 0);
      }
      String due = "";
      for (int index = 0; index < desk.count(4); index++) {
        due += desk.collision(index, false) + "" + desk.collision(index, true) + " ";
      }
      b.due("all of them", due, "01 02 03 12 13 23 ");
    });
  }

  private void buffer() {
    b.at(PART, "A text of a rule is a short form, \"=\", and a long form.", () -> {
      b.readRule("=", 0);
      b.readRule("b", 1);
      b.readRule("b=", 2);
      b.readRule("bb", 2);
      b.readRule("b=cc", -1);
      b.readRule("b==cc", 2);
      b.readRule("b=cc=", 4);
      b.readRule("b=cc ", 4);
      b.readRule("b =cc", 1);
      b.readRule("b= cc", 2);
      b.readRule("'b=cc", 0);
      b.readRule("b='cc", 2);
      for (String sign : new String[] {"`", "{", "A", "Z", "0"}) {
        b.readRule(sign + "=ccc", 0);
        b.readRule("b" + sign + "=ccc", 1);
        b.readRule("b=" + sign + "cc", 2);
        b.readRule("b=cc" + sign, 4);
      }
      b.readRule("az=zaz", -1);
    });
    b.at(PART, "The input buffer holds up to 100 characters with codes from 32 to 126.", () -> {
      AbbreviationDesk desk = new AbbreviationDesk();
      for (int code = 27; code <= 131; code++) {
        char sign = (char) code;
        boolean isTaken = code >= 32 && code <= 126;
        b.due("code " + code, () -> desk.append(sign), isTaken ? (Object) (code - 31) : Boundaries.IAE);
      }
      for (int size = 96; size <= 100; size++) {
        b.due("character " + size, desk.append(' '), size);
      }
      b.due("character 101", () -> desk.append(' '), Boundaries.UOE);
      b.due("characters", desk.count(5), 100);
    });
  }

  private void errorPositions() {
    b.at(PART, "The error position of a text that is malformed is the lowest index of a character with which, after"
        + " the characters before it, no text as it is expected can go on", () -> {
      b.readRule("B=C", 0);
      b.readRule("b=cC=", 3);
      b.readRule("bcdefgh", 6);
      b.readRule("b" + Desks.times(99, " ", ""), 1);
      b.read("b C D", AbbreviationDesk::abbreviate, 2);
      b.read("b 'C 'D", AbbreviationDesk::expand, 3);
      b.read("b  C", AbbreviationDesk::firstLost, 2);
      b.read("b C=d", AbbreviationDesk::learn, 2);
      b.read(Desks.times(99, "b ", "").substring(0, 98) + "bB", AbbreviationDesk::abbreviate, 99);
    });
    b.at(PART, "or the length of the text if there is no such index.", () -> {
      b.readRule("bcdefg", 6);
      b.readRule("bcdefg=", 7);
      b.readRule("bcdefg=bcdefg", 13);
      b.read("b ", AbbreviationDesk::abbreviate, 2);
      b.read("b '", AbbreviationDesk::expand, 3);
      b.read("b c ", AbbreviationDesk::firstLost, 4);
      b.read("b c=dd ", AbbreviationDesk::learn, 7);
      b.read(Desks.times(50, "b ", ""), AbbreviationDesk::abbreviate, 100);
    });
    b.at(PART, "That a long form has too few letters, or that there are not as many words as on the other side, is"
        + " told at the length of the text", () -> {
      b.readRule("b=c", 3);
      b.readRule("bc=de", 5);
      b.readRule("bcd=e", 5);
      b.read("b c=dd", AbbreviationDesk::learn, 6);
      b.read("b c d=ee ff", AbbreviationDesk::learn, 11);
    });
    b.at(PART, "a letter or a word that is one too many is an error at its first character, which for a word is the"
        + " space before it.", () -> {
      b.readRule("bcdefgh=bcdefghi", 6);
      b.readRule("bcdefg=bcdefghijklmn", 19);
      b.read(Desks.letters(25), AbbreviationDesk::abbreviate, 24);
      b.read("b '" + Desks.letters(25), AbbreviationDesk::expand, 27);
      b.read("b " + Desks.letters(25), AbbreviationDesk::firstLost, 26);
      b.read("b=" + Desks.letters(25), AbbreviationDesk::learn, 26);
      b.read("b=cc dd", AbbreviationDesk::learn, 4);
      b.read("b=cc ", AbbreviationDesk::learn, 4);
      b.read("b c=dd ee f", AbbreviationDesk::learn, 9);
    });
    b.at(PART, "Texts have no limit but that of the buffer", () -> {
      String hundred = Desks.longestText();
      b.due("its length", hundred.length(), 100);
      b.read(hundred, AbbreviationDesk::abbreviate, -1);
      b.read(hundred, AbbreviationDesk::firstLost, -1);
      b.read(hundred, AbbreviationDesk::expand, -1);
      b.read(Desks.times(49, "b", " ") + " 'b", AbbreviationDesk::expand, -1);
      String word = Desks.letters(24);
      String pairs = word + " " + word + " b=" + word + " " + Desks.letters(20) + " cc";
      b.due("its length", pairs.length(), 100);
      b.read(pairs, AbbreviationDesk::learn, -1);
    });
    b.at(PART, "and an empty buffer is never right.", () -> {
      b.readRule("", 0);
      b.read("", AbbreviationDesk::learn, 0);
      b.read("", AbbreviationDesk::abbreviate, 0);
      b.read("", AbbreviationDesk::expand, 0);
      b.read("", AbbreviationDesk::firstLost, 0);
    });
  }

  private void commands() {
    b.at(PART, "The commands are the successful calls, also those by which nothing changes, of addRule, removeRule,"
        + " setPriority, setContext, setMode, setThreshold and learn since the last call of clear, or since the"
        + " object was created.", () -> {
      Call[] changes = {
        desk -> Checks.add(desk, 0, "b=cc", 5, 0), desk -> desk.setPriority(0, 5), desk -> desk.setContext(0, 0),
        desk -> desk.setMode(1), desk -> desk.setThreshold(2), desk -> Checks.learn(desk, "b=b"),
        desk -> desk.removeRule(0),
      };
      Call[] others = {
        desk -> desk.removeRule(0), desk -> desk.setPriority(0, 0), desk -> desk.setContext(0, 0),
        desk -> desk.setMode(2), desk -> desk.setThreshold(0), desk -> desk.learn(), desk -> desk.addRule(0, 0, 0),
        desk -> desk.snapshot(), desk -> desk.isReplayed(), desk -> Checks.abbreviated(desk, "b"),
        desk -> Checks.expanded(desk, "b"), desk -> desk.takeBack(), desk -> desk.firstLost(),
        desk -> desk.storeLengths(0, true),
      };
      AbbreviationDesk desk = new AbbreviationDesk();
      for (int round = 0; round < 2; round++) {
        b.due("none", desk.count(7), 0);
        for (int change = 0; change < changes.length; change++) {
          int at = change;
          Checks.answer(() -> changes[at].on(desk));
          b.due("after change " + change, desk.count(7), change + 1);
        }
        for (int other = 0; other < others.length; other++) {
          int at = other;
          Checks.answer(() -> others[at].on(desk));
          b.due("after call " + other, desk.count(7), changes.length);
        }
        desk.expand();
        desk.clear();
      }
    });
    b.at(PART, "Whenever a command is carried out, it can be undone, and of those that could be undone before it,"
        + " only the latest 7 still can.", () -> {
      for (int commands = 0; commands <= 10; commands++) {
        AbbreviationDesk desk = new AbbreviationDesk();
        for (int command = 1; command <= commands; command++) {
          desk.setThreshold(command % 9 + 1);
        }
        int undos = Math.min(commands, 8);
        b.due("can after " + commands, desk.count(6), undos);
        for (int left = undos - 1; left >= 0; left--) {
          b.due("undo", desk.undo(), left);
        }
        b.due("no more", () -> desk.undo(), Boundaries.ISE);
        b.due("commands", desk.count(7), commands - undos);
        b.due("threshold", desk.count(3), commands > 8 ? (commands - 8) % 9 + 1 : 2);
      }
    });
  }

  private void results() {
    b.at(PART, "What was abbreviated or expanded last is kept as the result, with what was done for each"
        + " word", () -> {
      Call[] calls = {
        AbbreviationDesk::abbreviate, AbbreviationDesk::expand, AbbreviationDesk::learn, AbbreviationDesk::firstLost,
      };
      for (String wrong : new String[] {"", "B", "b ", Desks.letters(25)}) {
        AbbreviationDesk desk = Desks.busyWith(wrong);
        Object due = Checks.output(desk) + Checks.words(desk);
        for (Call call : calls) {
          b.due("'" + wrong + "'", () -> call.on(desk), Boundaries.IAE);
          b.due("the result is kept", Checks.output(desk) + Checks.words(desk), due);
        }
      }
      AbbreviationDesk desk = Desks.busyWith("b");
      desk.expand();
      b.due("the last one", Checks.output(desk) + desk.result(5), "b0");
    });
    b.at(PART, "it stays as it is when rules change, and belongs neither to the commands nor to a snapshot.", () -> {
      Supplier<AbbreviationDesk> made = Desks::busy;
      Object due = Looks.after(made, desk -> null).get("result");
      Call[] calls = {
        desk -> desk.removeRule(0), desk -> desk.setPriority(0, 99), desk -> desk.setContext(0, 4),
        desk -> desk.setMode(1), desk -> desk.setThreshold(9), desk -> desk.undo(), desk -> desk.restore(),
        desk -> desk.snapshot(), desk -> desk.clear(), desk -> desk.isReplayed(), desk -> desk.firstLost(),
        desk -> desk.takeBack(),
      };
      for (int call = 0; call < calls.length; call++) {
        b.due("result after call " + call, Looks.after(made, calls[call]).get("result"), due);
      }
    });
  }

  private void detailsOfForms() {
    b.at(PART, "Beginnings and ends that have together just as many letters as the word both count", () -> {
      AbbreviationDesk desk = Desks.withEnds(5, 5);
      b.due("as many", Checks.abbreviated(desk, "abccde"), "uv");
      b.due("both were used", Checks.words(desk), "4,0,1,6,2,0;");
      b.due("one less", Checks.abbreviated(desk, "abcde"), "ude");
      b.due("one was used", Checks.words(desk), "2,0,-1,5,3,0;");
    });
    b.at(PART, "when a word is expanded, this is by the letters of their short forms.", () -> {
      AbbreviationDesk desk = new AbbreviationDesk();
      Checks.add(desk, 1, "uv=abcd", 5, 0);
      Checks.add(desk, 2, "vw=efgh", 9, 0);
      b.due("as many", Checks.expanded(desk, "uvvw"), "abcdefgh");
      b.due("both were used", Checks.words(desk), "4,0,1,4,8,0;");
      b.due("one less", Checks.expanded(desk, "uvw"), "uefgh");
      b.due("one was used", Checks.words(desk), "3,-1,1,3,5,0;");
    });
    b.at(PART, "The place of a word that is abbreviated is behind the word that was given before it, whatever that"
        + " became, and the place of a word that is expanded behind what the word before it was expanded to.", () -> {
      AbbreviationDesk desk = new AbbreviationDesk();
      Checks.add(desk, 0, "s=so", 0, 0);
      Checks.add(desk, 0, "e=el", 0, 0);
      Checks.add(desk, 0, "t=the", 0, 3);
      Checks.add(desk, 0, "q=the", 0, 4);
      b.due("behind short forms", Checks.abbreviated(desk, "so the el the"), "s t e q");
      b.due("behind marked words", Checks.abbreviated(desk, "s the e the"), "'s q 'e t");
      b.due("behind long forms", Checks.expanded(desk, "s t s q e q e t"), "so the so q el the el t");
      b.due("behind marks taken away", Checks.expanded(desk, "'s t 's q 'e q 'e t"), "s t s the e q e the");
    });
    b.at(PART, "Words that become longer by expanding have no limit.", () -> {
      AbbreviationDesk desk = new AbbreviationDesk();
      Checks.add(desk, 1, "u=" + Desks.letters(12), 5, 0);
      Checks.add(desk, 2, "v=" + Desks.letters(12), 5, 0);
      b.due("46 letters", Checks.expanded(desk, "u" + Desks.letters(20) + "xyv"),
          Desks.letters(12) + Desks.letters(20) + "xy" + Desks.letters(12));
      b.due("its letters", desk.word(0, 4), 46);
      Checks.type(desk, Desks.times(33, "uv", " "));
      b.due("33 words of 24 letters", desk.expand(), 824);
      b.due("the last one starts", desk.word(32, 5), 800);
      b.due("the last character", desk.output(823), 'm');
      b.due("no more", () -> desk.output(824), Boundaries.IOOBE);
      b.due("too long to be taken back", () -> desk.takeBack(), Boundaries.UOE);
    });
  }

  private void detailsOfResults() {
    b.at(PART, "A word that is marked, or from which the mark is taken away, has no numbers of rules.", () -> {
      AbbreviationDesk desk = new AbbreviationDesk();
      Checks.add(desk, 0, "t=the", 5, 0);
      Checks.add(desk, 1, "u=un", 5, 0);
      Checks.abbreviated(desk, "t unt ux");
      b.due("marked", Checks.words(desk), "5,-1,-1,1,1,0;2,1,-1,3,2,3;5,-1,-1,2,2,6;");
      b.due("uses", desk.result(3), 1);
      Checks.expanded(desk, "'t 'ux ux");
      b.due("taken away", Checks.words(desk), "5,-1,-1,1,1,0;5,-1,-1,2,2,2;2,1,-1,2,3,5;");
      b.due("uses", desk.result(3), 1);
    });
    b.at(PART, "The first character of a marked word is its apostrophe, and the characters of a given text include"
        + " apostrophes and spaces.", () -> {
      AbbreviationDesk desk = new AbbreviationDesk();
      Checks.add(desk, 0, "t=the", 5, 0);
      b.due("marked", Checks.abbreviated(desk, "t t x"), "'t 't x");
      b.due("the first", desk.word(0, 5), 0);
      b.due("the second", desk.word(1, 5), 3);
      b.due("its character", desk.output(3), '\'');
      b.due("the third", desk.word(2, 5), 6);
      b.due("characters given", desk.result(2), 5);
      Checks.expanded(desk, "'t 't x");
      b.due("characters given with apostrophes", desk.result(2), 7);
      b.due("the second then", desk.word(1, 5), 2);
    });
    b.at(PART, "A word of a text that is expanded can lack its restoring because of a word before it that is"
        + " lost.", () -> {
      AbbreviationDesk desk = new AbbreviationDesk();
      desk.setMode(0);
      Checks.add(desk, 0, "a=abe", 5, 0);
      Checks.add(desk, 0, "a=abc", 4, 0);
      Checks.add(desk, 0, "t=the", 5, 4);
      Checks.type(desk, "x abc the");
      b.due("the word before it", desk.firstLost(), 1);
      desk.abbreviate();
      desk.takeBack();
      desk.expand();
      b.due("both are lost", Checks.output(desk), "x abe t");
      Checks.type(desk, "x abc");
      b.due("the word alone", desk.firstLost(), 1);
      desk.abbreviate();
      Checks.type(desk, "x the");
      b.due("the next alone", desk.firstLost(), -1);
    });
    b.at(PART, "The result and the rows stay at a restore.", () -> {
      var before = Looks.after(Desks::busy, desk -> null);
      var after = Looks.after(Desks::busy, desk -> desk.restore());
      for (String part : new String[] {"result", "row 0", "row 1"}) {
        b.due(part, after.get(part), before.get(part));
      }
    });
  }

  private void detailsOfLearning() {
    b.at(PART, "With the threshold 1, a new pair makes its rule at once", () -> {
      AbbreviationDesk desk = new AbbreviationDesk();
      b.due("threshold 2", Checks.learn(desk, "b=cc"), 0);
      desk.setThreshold(1);
      b.due("threshold 1", Checks.learn(desk, "d e=dd ee"), 2);
    });
    b.at(PART, "a rule for words with these forms prevents that whatever its context is", () -> {
      for (int context = 0; context <= 4; context++) {
        AbbreviationDesk desk = new AbbreviationDesk();
        desk.setThreshold(1);
        Checks.add(desk, 0, "b=cc", 0, context);
        b.due("context " + context, Checks.learn(desk, "b=cc"), 0);
        b.due("rules", desk.count(0), 1);
        b.due("the pair is known", desk.pair(0, 3), 0);
      }
    });
    b.at(PART, "a pair whose count is beyond the threshold makes none.", () -> {
      AbbreviationDesk desk = new AbbreviationDesk();
      desk.setThreshold(9);
      Checks.learn(desk, "b b b=cc cc cc");
      desk.setThreshold(2);
      b.due("4, threshold 2", Checks.learn(desk, "b=cc"), 0);
      desk.setThreshold(4);
      b.due("5, threshold 4", Checks.learn(desk, "b=cc"), 0);
      desk.setThreshold(6);
      b.due("6, threshold 6", Checks.learn(desk, "b=cc"), 1);
      desk.removeRule(0);
      b.due("7, threshold 6", Checks.learn(desk, "b=cc"), 0);
    });
    b.at(PART, "Equal words are passed over.", () -> {
      AbbreviationDesk desk = new AbbreviationDesk();
      desk.setThreshold(1);
      b.due("rules", Checks.learn(desk, "b cc b=b cc bb"), 1);
      b.due("pairs", desk.count(1), 1);
      b.due("equal words alone", Checks.learn(desk, "bb=bb"), 0);
      b.due("they make a command", desk.count(7), 3);
    });
  }

  private void detailsOfCommands() {
    b.at(PART, "The same forms can be added several times.", () -> {
      AbbreviationDesk desk = new AbbreviationDesk();
      for (int rule = 0; rule < 24; rule++) {
        b.due("rule " + rule, Checks.add(desk, 0, "t=the", 5, 0), rule);
      }
      b.due("no collisions", desk.count(4), 0);
    });
    b.at(PART, "The undone commands do not count.", () -> {
      AbbreviationDesk desk = new AbbreviationDesk();
      for (int threshold = 1; threshold <= 9; threshold++) {
        desk.setThreshold(threshold);
      }
      for (int left = 8; left >= 1; left--) {
        desk.undo();
        b.due("commands", desk.count(7), left);
        b.due("undos", desk.count(6), left - 1);
      }
      desk.setMode(0);
      b.due("commands after one more", desk.count(7), 2);
      b.due("undos after one more", desk.count(6), 1);
    });
  }

  private void exceptions() {
    b.at(PART, "A call that throws an exception leaves the state unchanged, unless its description says"
        + " otherwise.", () -> {
      for (int far : Boundaries.FAR) {
        Call[] calls = {
          desk -> desk.removeRule(far), desk -> desk.setPriority(far, 0), desk -> desk.setContext(far, 0),
          desk -> desk.rule(far, 0), desk -> desk.letter(far, true, 0), desk -> desk.shadow(far, true),
          desk -> desk.pair(far, 0), desk -> desk.output(far), desk -> desk.word(far, 0),
          desk -> desk.storeLengths(far, true), desk -> desk.copyLengths(far, 0), desk -> desk.storedBits(far, 0),
          desk -> desk.addRule(far, 0, 0), desk -> desk.addRule(0, far, 0), desk -> desk.addRule(0, 0, far),
        };
        for (int call = 0; call < calls.length; call++) {
          b.refused("call " + call + " of " + far, Desks::busy, calls[call], Boundaries.IOOBE);
        }
      }
      for (int far : Boundaries.FAR) {
        Call[] calls = {
          desk -> desk.setPriority(0, far), desk -> desk.setContext(0, far), desk -> desk.setMode(far),
          desk -> desk.setThreshold(far), desk -> desk.rule(0, far), desk -> desk.count(far),
          desk -> desk.saving(far), desk -> desk.pair(0, far), desk -> desk.word(0, far), desk -> desk.result(far),
        };
        for (int call = 0; call < calls.length; call++) {
          b.refused("call " + call + " with " + far, Desks::busy, calls[call], Boundaries.IAE);
        }
      }
      for (int far : Boundaries.FAR) {
        Call[] calls = {
          desk -> desk.letter(0, true, far), desk -> desk.collision(far, true), desk -> desk.order(far),
          desk -> desk.storedBits(0, far),
        };
        for (int call = 0; call < calls.length; call++) {
          b.refused("call " + call + " at " + far, Desks::busy, calls[call], Boundaries.NSE);
        }
      }
    });
  }

  private void orderOfExceptions() {
    b.at(PART, "If a method can throw several exceptions, they are checked in the order in which they are"
        + " listed.", () -> {
      Supplier<AbbreviationDesk> fresh = AbbreviationDesk::new;
      Supplier<AbbreviationDesk> full = () -> Desks.withRules(24);
      Supplier<AbbreviationDesk> fullBuffer = () -> Desks.withBuffer(Desks.times(100, "b", ""));
      b.refused("append", fullBuffer, desk -> desk.append((char) 31), Boundaries.IAE);
      b.refused("addRule, empty buffer", fresh, desk -> desk.addRule(3, 0, 0), Boundaries.IOOBE);
      b.refused("addRule, empty buffer, 24 rules", full, desk -> desk.addRule(0, 100, 0), Boundaries.IOOBE);
      b.due("addRule, malformed, 24 rules", () -> full.get().addRule(0, 0, 0), Boundaries.IAE);
      b.refused("setPriority", fresh, desk -> desk.setPriority(0, 100), Boundaries.IOOBE);
      b.refused("setContext", fresh, desk -> desk.setContext(0, 5), Boundaries.IOOBE);
      b.refused("rule", fresh, desk -> desk.rule(0, 6), Boundaries.IOOBE);
      b.refused("letter", fresh, desk -> desk.letter(0, true, -1), Boundaries.IOOBE);
      b.refused("pair", fresh, desk -> desk.pair(0, 4), Boundaries.IOOBE);
      b.refused("output", fresh, desk -> desk.output(-1), Boundaries.ISE);
      b.refused("word without a result", fresh, desk -> desk.word(-1, 6), Boundaries.ISE);
      b.refused("word", Desks::busy, desk -> desk.word(-1, 6), Boundaries.IOOBE);
      b.refused("result", fresh, desk -> desk.result(6), Boundaries.ISE);
      b.refused("meanPriority", fresh, desk -> desk.meanPriority(), Boundaries.ISE);
      b.refused("storeLengths", fresh, desk -> desk.storeLengths(2, true), Boundaries.IOOBE);
      b.refused("copyLengths, no rows", fresh, desk -> desk.copyLengths(2, -1), Boundaries.IOOBE);
      b.refused("copyLengths, no rows to copy", fresh, desk -> desk.copyLengths(0, -1), Boundaries.NSE);
      b.refused("copyLengths, types", Desks::busy, desk -> desk.copyLengths(0, -1), Boundaries.UOE);
      b.refused("storedBits", fresh, desk -> desk.storedBits(2, 0), Boundaries.IOOBE);
    });
  }

  private void newObject() {
    b.at(PART, "A new object has no rules and no pairs, the mode 1, the threshold 2, an empty buffer and no"
        + " result.", () -> {
      AbbreviationDesk desk = new AbbreviationDesk();
      int[] due = {0, 0, 1, 2, 0, 0, 0, 0};
      for (int what = 0; what < due.length; what++) {
        b.due("count " + what, desk.count(what), due[what]);
      }
      b.due("no rule", () -> desk.rule(0, 0), Boundaries.IOOBE);
      b.due("no pair", () -> desk.pair(0, 0), Boundaries.IOOBE);
      b.due("no result", () -> desk.result(0), Boundaries.ISE);
    });
  }
}
