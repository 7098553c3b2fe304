/** The boundaries of the document's general part up to abbreviating, sentence by sentence. */
final class DescriptionBoundaries {
  private static final String PART = "Description";

  /** The calls that read a text, and those that read texts without marked words. */
  private static final Call[] TEXTS = {
    AbbreviationDesk::abbreviate, AbbreviationDesk::expand, AbbreviationDesk::firstLost,
  };
  private static final Call[] UNMARKED = {
    AbbreviationDesk::abbreviate, AbbreviationDesk::firstLost, AbbreviationDesk::learn,
  };

  private final Boundaries b;

  DescriptionBoundaries(Boundaries boundaries) {
    b = boundaries;
  }

  void run() {
    calls();
    words();
    texts();
    rules();
    forms();
    betterRules();
    contexts();
    shortForms();
    longForms();
    abbreviating();
  }

  private void calls() {
    b.at("What it is", "An object is used for at most 512 calls after it has been made", () -> {
      AbbreviationDesk commands = new AbbreviationDesk();
      for (int call = 1; call <= 509; call++) {
        commands.setThreshold(call % 2 + 1);
      }
      b.due("call 510", commands.setThreshold(9), 2);
      b.due("call 511", commands.count(7), 510);
      b.due("call 512", commands.isReplayed(), true);
      AbbreviationDesk undone = new AbbreviationDesk();
      for (int call = 1; call <= 509; call++) {
        undone.setThreshold(call % 2 + 1);
      }
      b.due("call 510", undone.setMode(0), 1);
      b.due("call 511", undone.undo(), 7);
      b.due("call 512", undone.isReplayed(), true);
    });
  }

  /** Texts of one word, read by each call that reads words, also on both sides of a text of pairs. */
  private void readWord(String word, int position) {
    b.read(word, AbbreviationDesk::abbreviate, position);
    b.read(word, AbbreviationDesk::expand, position);
    b.read(word, AbbreviationDesk::firstLost, position);
    b.read(word + "=bb", AbbreviationDesk::learn, position);
    b.read("x=" + word, AbbreviationDesk::learn, position < 0 ? -1 : position + 2);
  }

  private void words() {
    b.at(PART, "A word consists of 1 to 24 letters", () -> {
      readWord("", 0);
      readWord("b", -1);
      readWord(Desks.letters(23), -1);
      readWord(Desks.letters(24), -1);
      readWord(Desks.letters(25), 24);
      readWord(Desks.letters(26), 24);
      b.read(Desks.letters(24) + " " + Desks.letters(24), AbbreviationDesk::abbreviate, -1);
      b.read(Desks.letters(24) + " " + Desks.letters(25), AbbreviationDesk::abbreviate, 49);
    });
    b.at(PART, "letters from a to z", () -> {
      for (String word : new String[] {"a", "z", "az", "za"}) {
        readWord(word, -1);
      }
      for (String sign : new String[] {"`", "{", "@", "A", "Z", "[", "0", "9", "~", "-"}) {
        readWord(sign, 0);
        readWord("b" + sign, 1);
      }
    });
    b.at(PART, "a marked word is an apostrophe followed by a word.", () -> {
      b.read("'", AbbreviationDesk::expand, 1);
      b.read("'b", AbbreviationDesk::expand, -1);
      b.read("'" + Desks.letters(24), AbbreviationDesk::expand, -1);
      b.read("'" + Desks.letters(25), AbbreviationDesk::expand, 25);
      b.read("''b", AbbreviationDesk::expand, 1);
      b.read("' b", AbbreviationDesk::expand, 1);
      b.read("b'", AbbreviationDesk::expand, 1);
      b.read("'b'", AbbreviationDesk::expand, 2);
      b.read("b '", AbbreviationDesk::expand, 3);
      b.read("b 'c", AbbreviationDesk::expand, -1);
    });
    b.at(PART, "The vowels are a, e, i, o and u.", () -> {
      AbbreviationDesk desk = new AbbreviationDesk();
      Checks.add(desk, 0, "b=the", 5, 3);
      Checks.add(desk, 0, "c=the", 5, 4);
      desk.setMode(0);
      for (char letter = 'a'; letter <= 'z'; letter++) {
        boolean isVowel = "aeiou".indexOf(letter) >= 0;
        b.due("behind " + letter, Checks.abbreviated(desk, letter + " the"), letter + (isVowel ? " b" : " c"));
      }
    });
  }

  private void texts() {
    b.at(PART, "A text consists of 1 or more words", () -> {
      for (Call call : TEXTS) {
        b.read("", call, 0);
        b.read("b", call, -1);
        b.read("b c", call, -1);
        b.read(Desks.times(50, "b", " "), call, -1);
      }
      AbbreviationDesk desk = new AbbreviationDesk();
      Checks.abbreviated(desk, Desks.times(50, "b", " "));
      b.due("fifty words", desk.result(0), 50);
    });
    b.at(PART, "and, where marked words are allowed, also marked words", () -> {
      b.read("'b", AbbreviationDesk::expand, -1);
      b.read(Desks.times(33, "'b", " "), AbbreviationDesk::expand, -1);
      for (Call call : new Call[] {AbbreviationDesk::abbreviate, AbbreviationDesk::firstLost}) {
        b.read("'b", call, 0);
        b.read("b 'c", call, 2);
      }
      b.read("'b=cc", AbbreviationDesk::learn, 0);
      b.read("b='cc", AbbreviationDesk::learn, 2);
      AbbreviationDesk desk = new AbbreviationDesk();
      for (Call call : UNMARKED) {
        Checks.answer(() -> desk.expand());
        b.due("expanded", Checks.expanded(desk, "'b"), "b");
        Checks.type(desk, "'b");
        b.due("right after that", () -> call.on(desk), Boundaries.IAE);
        b.due("its position", desk.errorPosition(), 0);
      }
      Checks.answer(() -> desk.expand());
      b.due("expanded after all of them", Checks.expanded(desk, "'b"), "b");
    });
    b.at(PART, "with one space between two of them.", () -> {
      for (Call call : TEXTS) {
        b.read(" ", call, 0);
        b.read(" b", call, 0);
        b.read("b ", call, 2);
        b.read("b  c", call, 2);
        b.read("b c ", call, 4);
        b.read("b-c", call, 1);
      }
      b.read("b c =dd ee", AbbreviationDesk::learn, 4);
      b.read("b  c=dd ee", AbbreviationDesk::learn, 2);
      b.read("b c=dd  ee", AbbreviationDesk::learn, 7);
      b.read("b c= dd ee", AbbreviationDesk::learn, 4);
    });
    b.at(PART, "The words of a text are numbered from 0.", () -> {
      AbbreviationDesk desk = new AbbreviationDesk();
      Checks.abbreviated(desk, "b cc ddd");
      for (int word = 0; word < 3; word++) {
        b.due("word " + word, desk.word(word, 3), word + 1);
      }
      b.due("word -1", () -> desk.word(-1, 3), Boundaries.IOOBE);
      b.due("word 3", () -> desk.word(3, 3), Boundaries.IOOBE);
    });
  }

  private void rules() {
    b.at(PART, "There are at most 24 rules, numbered from 0 in the order in which they were added", () -> {
      AbbreviationDesk desk = new AbbreviationDesk();
      for (int rule = 0; rule < 24; rule++) {
        b.due("rule " + rule, Checks.add(desk, 0, "t=the", 90 - rule, 0), rule);
      }
      Checks.type(desk, "t=the");
      b.due("one more", () -> desk.addRule(0, 0, 0), Boundaries.ISE);
      b.due("rules", desk.count(0), 24);
      for (int rule = 0; rule < 24; rule++) {
        b.due("priority " + rule, desk.rule(rule, 1), 90 - rule);
      }
    });
    b.at(PART, "when one is removed, the later ones get numbers less by 1.", () -> {
      for (int gone : new int[] {0, 1, 11, 22, 23}) {
        AbbreviationDesk desk = Desks.withRules(24);
        desk.removeRule(gone);
        for (int rule = 0; rule < 23; rule++) {
          int before = rule < gone ? rule : rule + 1;
          b.due("priority of " + rule + " without " + gone, desk.rule(rule, 1), before);
          b.due("its kind", desk.rule(rule, 0), before % 3);
          b.due("its context", desk.rule(rule, 2), before % 5);
          b.due("its letter", desk.letter(rule, false, 0), (char) ('a' + before));
          b.due("its letters", desk.rule(rule, 4), 3 + before % 2);
        }
        b.due("23 without " + gone, () -> desk.rule(23, 1), Boundaries.IOOBE);
        b.due("a new one", Checks.add(desk, 0, "t=the", 99, 0), 23);
        b.due("its priority", desk.rule(23, 1), 99);
      }
    });
    b.at(PART, "A rule has a kind, 0 for words, 1 for beginnings, 2 for ends", () -> {
      String[] due = {"t thx xth", "th tx xth", "th thx xt"};
      for (int kind = 0; kind <= 2; kind++) {
        AbbreviationDesk desk = new AbbreviationDesk();
        desk.setMode(0);
        Checks.add(desk, kind, "t=th", 0, 0);
        b.due("kind " + kind, Checks.abbreviated(desk, "th thx xth"), due[kind]);
      }
      for (int kind : new int[] {-1, 3}) {
        AbbreviationDesk desk = Desks.withBuffer("t=the");
        b.due("kind " + kind, () -> desk.addRule(kind, 0, 0), Boundaries.IOOBE);
      }
    });
    b.at(PART, "a priority from 0 to 99", () -> {
      AbbreviationDesk desk = new AbbreviationDesk();
      b.due("0", Checks.add(desk, 0, "t=the", 0, 0), 0);
      b.due("99", Checks.add(desk, 0, "t=the", 99, 0), 1);
      b.due("0 is kept", desk.rule(0, 1), 0);
      b.due("99 is kept", desk.rule(1, 1), 99);
      for (int priority : new int[] {-1, 100}) {
        AbbreviationDesk other = Desks.withBuffer("t=the");
        b.due("priority " + priority, () -> other.addRule(0, priority, 0), Boundaries.IOOBE);
      }
    });
    b.at(PART, "and a context from 0 to 4.", () -> {
      AbbreviationDesk desk = new AbbreviationDesk();
      for (int context = 0; context <= 4; context++) {
        b.due("context " + context, Checks.add(desk, 0, "t=the", 0, context), context);
        b.due("it is kept", desk.rule(context, 2), context);
      }
      for (int context : new int[] {-1, 5}) {
        AbbreviationDesk other = Desks.withBuffer("t=the");
        b.due("context " + context, () -> other.addRule(0, 0, context), Boundaries.IOOBE);
      }
    });
  }

  private void forms() {
    b.at(PART, "a short form with 1 to 6 letters", () -> {
      b.readRule("=bb", 0);
      b.readRule("b=cc", -1);
      b.readRule("bcdef=" + Desks.letters(12), -1);
      b.readRule("bcdefg=" + Desks.letters(12), -1);
      b.readRule("bcdefgh=" + Desks.letters(12), 6);
    });
    b.at(PART, "a long form with 2 to 12 letters", () -> {
      b.readRule("b=", 2);
      b.readRule("b=c", 3);
      b.readRule("b=cc", -1);
      b.readRule("b=" + Desks.letters(11), -1);
      b.readRule("b=" + Desks.letters(12), -1);
      b.readRule("b=" + Desks.letters(13), 14);
    });
    b.at(PART, "which has more letters than the short form", () -> {
      for (int letters = 1; letters <= 6; letters++) {
        String text = Desks.letters(letters) + "=" + "zzzzzzz".substring(0, letters);
        b.readRule(text.substring(0, text.length() - 1), text.length() - 1);
        b.readRule(text, text.length());
        b.readRule(text + "z", -1);
      }
    });
  }

  private void betterRules() {
    b.at(PART, "Of two rules, the one with the greater priority is better", () -> {
      AbbreviationDesk desk = new AbbreviationDesk();
      Checks.add(desk, 0, "t=those", 5, 0);
      Checks.add(desk, 0, "t=the", 6, 0);
      b.due("the best", desk.order(0), 1);
      desk.setPriority(1, 4);
      b.due("the best then", desk.order(0), 0);
      desk.setPriority(0, 0);
      desk.setPriority(1, 99);
      b.due("99 and 0", desk.order(0), 1);
    });
    b.at(PART, "for equal ones the one whose long form has more letters", () -> {
      AbbreviationDesk desk = new AbbreviationDesk();
      Checks.add(desk, 0, "abc=defg", 5, 0);
      Checks.add(desk, 0, "t=those", 5, 0);
      b.due("more letters", desk.order(0), 1);
      Checks.add(desk, 0, "t=thosee", 4, 0);
      b.due("priorities come first", desk.order(0), 1);
    });
    b.at(PART, "and for equal numbers the one with the lower number.", () -> {
      AbbreviationDesk desk = new AbbreviationDesk();
      for (int rule = 0; rule < 24; rule++) {
        Checks.add(desk, rule % 3, "t=the", 5, 0);
      }
      for (int better = 0; better < 24; better++) {
        b.due("order " + better, desk.order(better), better);
      }
    });
  }

  /** What a rule with a context makes of the same text at the word 0, behind an x, and behind an a. */
  private void placesOf(int context, String shortened, String lengthened) {
    AbbreviationDesk words = new AbbreviationDesk();
    words.setMode(0);
    Checks.add(words, 0, "t=the", 0, context);
    b.due("abbreviated", Checks.abbreviated(words, "the x the a the"), shortened);
    b.due("expanded", Checks.expanded(words, "t x t a t"), lengthened);
    AbbreviationDesk ends = new AbbreviationDesk();
    ends.setMode(0);
    Checks.add(ends, 1, "t=the", 0, context);
    Checks.add(ends, 2, "e=enth", 0, context);
    b.due("beginnings and ends", Checks.abbreviated(ends, "theenth x theenth a theenth"),
        shortened.replace("the", "theenth").replaceAll("\\bt\\b", "te"));
  }

  private void contexts() {
    b.at(PART, "A rule with the context 0 fits everywhere", () -> placesOf(0, "t x t a t", "the x the a the"));
    b.at(PART, "with 1 at the word 0 alone", () -> placesOf(1, "t x the a the", "the x t a t"));
    b.at(PART, "with 2 at all other words alone", () -> placesOf(2, "the x t a t", "t x the a the"));
    b.at(PART, "with 3 only behind a word whose long form ends with a vowel",
        () -> placesOf(3, "the x the a t", "t x t a the"));
    b.at(PART, "and with 4 only behind one whose long form ends with another letter.",
        () -> placesOf(4, "the x t a the", "t x the a t"));
    b.at(PART, "Rules with the contexts 3 and 4 do not fit at the word 0.", () -> {
      AbbreviationDesk desk = new AbbreviationDesk();
      desk.setMode(0);
      Checks.add(desk, 0, "t=the", 0, 3);
      Checks.add(desk, 0, "t=the", 0, 4);
      b.due("one word", Checks.abbreviated(desk, "the"), "the");
      b.due("what was done", desk.word(0, 0), 0);
      b.due("then two", Checks.abbreviated(desk, "the the"), "the t");
      b.due("expanded", Checks.expanded(desk, "t t"), "t the");
    });
    b.at(PART, "The long form of a word that is abbreviated is the word itself; that of a word that is expanded is"
        + " what it is expanded to.", () -> {
      AbbreviationDesk desk = new AbbreviationDesk();
      desk.setMode(0);
      Checks.add(desk, 0, "s=so", 0, 0);
      Checks.add(desk, 0, "a=at", 0, 0);
      Checks.add(desk, 0, "t=the", 0, 3);
      b.due("behind so", Checks.abbreviated(desk, "so the"), "s t");
      b.due("behind at", Checks.abbreviated(desk, "at the"), "a the");
      b.due("behind what is so", Checks.expanded(desk, "s t"), "so the");
      b.due("behind what is at", Checks.expanded(desk, "a t"), "at t");
    });
  }

  private void shortForms() {
    b.at(PART, "If the word is the long form of a rule for words, it is the short form of the best one of"
        + " these.", () -> {
      AbbreviationDesk desk = Desks.withEnds(99, 99);
      Checks.add(desk, 0, "x=abcde", 1, 0);
      Checks.add(desk, 0, "y=abcde", 2, 0);
      Checks.add(desk, 0, "z=abcde", 2, 0);
      b.due("the word", Checks.abbreviated(desk, "abcde"), "y");
      b.due("one letter less", Checks.abbreviated(desk, "abcd"), "ud");
      b.due("one letter more", Checks.abbreviated(desk, "abcdef"), "udef");
      b.due("another last letter", Checks.abbreviated(desk, "abcdf"), "udf");
      b.due("another first letter", Checks.abbreviated(desk, "bbcde"), "bbv");
    });
    b.at(PART, "Otherwise the best rule for beginnings whose long form is a proper beginning of the word, and the"
        + " best rule for ends whose long form is a proper end of it, are looked for", () -> {
      AbbreviationDesk desk = new AbbreviationDesk();
      desk.setMode(0);
      Checks.add(desk, 1, "x=ab", 9, 0);
      Checks.add(desk, 1, "y=abcd", 9, 0);
      Checks.add(desk, 2, "z=yz", 8, 0);
      Checks.add(desk, 2, "w=yz", 7, 0);
      b.due("the longer one is better", Checks.abbreviated(desk, "abcdxyz"), "yxz");
      b.due("the longer one is no proper beginning", Checks.abbreviated(desk, "abcd"), "xcd");
      b.due("a beginning alone", Checks.abbreviated(desk, "abcdef"), "yef");
      b.due("an end alone", Checks.abbreviated(desk, "cabyz"), "cabz");
      b.due("neither", Checks.abbreviated(desk, "cabyzx"), "cabyzx");
    });
    b.at(PART, "if both exist and their long forms together have more letters than the word, only the better one of"
        + " the two counts", () -> {
      b.due("as many letters", Checks.abbreviated(Desks.withEnds(5, 5), "abccde"), "uv");
      b.due("one letter too many, equal ones", Checks.abbreviated(Desks.withEnds(5, 5), "abcde"), "ude");
      b.due("one letter too many, a better end", Checks.abbreviated(Desks.withEnds(5, 6), "abcde"), "abv");
      b.due("one letter too many, a better beginning", Checks.abbreviated(Desks.withEnds(6, 5), "abcde"), "ude");
      AbbreviationDesk endFirst = new AbbreviationDesk();
      endFirst.setMode(0);
      Checks.add(endFirst, 2, "v=cde", 5, 0);
      Checks.add(endFirst, 1, "u=abc", 5, 0);
      b.due("one letter too many, the end has the lower number", Checks.abbreviated(endFirst, "abcde"), "abv");
      b.due("as many letters", Checks.abbreviated(endFirst, "abccde"), "uv");
      b.due("a letter between", Checks.abbreviated(Desks.withEnds(5, 5), "abcxcde"), "uxv");
    });
    b.at(PART, "the long forms of those that count are replaced by their short forms.", () -> {
      AbbreviationDesk desk = new AbbreviationDesk();
      desk.setMode(0);
      Checks.add(desk, 1, "abcdef=bcdefghijklm", 5, 0);
      Checks.add(desk, 2, "x=yz", 5, 0);
      b.due("the longest and the shortest", Checks.abbreviated(desk, "bcdefghijklmyz bcdefghijklmmyz"),
          "abcdefx abcdefmx");
    });
    b.at(PART, "A proper beginning or end has fewer letters than the word.", () -> {
      b.due("a whole word", Checks.abbreviated(Desks.withEnds(5, 5), "abc cde"), "abc cde");
      b.due("a letter more", Checks.abbreviated(Desks.withEnds(5, 5), "abcx xcde"), "ux xv");
      b.due("a letter less", Checks.abbreviated(Desks.withEnds(5, 5), "ab de"), "ab de");
      b.due("whole words, expanded", Checks.expanded(Desks.withEnds(5, 5), "u v"), "u v");
      b.due("a letter more, expanded", Checks.expanded(Desks.withEnds(5, 5), "ux xv"), "abcx xcde");
    });
    b.at(PART, "If there are no such rules, the word is its own short form.", () -> {
      String text = "b " + Desks.letters(24);
      b.due("no rules at all", Checks.abbreviated(new AbbreviationDesk(), text), text);
      AbbreviationDesk desk = Desks.withEnds(5, 5);
      b.due("none that suits", Checks.abbreviated(desk, "cdeabc"), "cdeabc");
      b.due("what was done", desk.word(0, 0), 0);
    });
  }

  private void longForms() {
    b.at(PART, "by rules for words whose short form is the word, and otherwise by the best rules for beginnings and"
        + " ends whose short forms are proper beginnings or ends of it.", () -> {
      AbbreviationDesk desk = Desks.withEnds(99, 99);
      Checks.add(desk, 0, "uv=wxyz", 1, 0);
      Checks.add(desk, 0, "uv=wxyy", 1, 0);
      b.due("a word, and one letter more", Checks.expanded(desk, "uv uvv uuv"), "wxyz abcvcde abcucde");
      desk.removeRule(3);
      desk.removeRule(2);
      b.due("both", Checks.expanded(desk, "uv uxv"), "abccde abcxcde");
      b.due("one", Checks.expanded(desk, "ux xv"), "abcx xcde");
      b.due("no proper ones", Checks.expanded(desk, "u v"), "u v");
    });
    b.at(PART, "The long form of a marked word is the word behind the apostrophe, whatever the rules are.", () -> {
      AbbreviationDesk desk = Desks.withEnds(5, 5);
      Checks.add(desk, 0, "t=the", 9, 0);
      b.due("marked ones and others", Checks.expanded(desk, "'t t 'uv uv '" + Desks.letters(24)),
          "t the uv abccde " + Desks.letters(24));
    });
  }

  private void abbreviating() {
    b.at(PART, "In the mode 0, each word becomes its short form.", () -> {
      AbbreviationDesk desk = new AbbreviationDesk();
      Checks.add(desk, 0, "t=the", 5, 0);
      Checks.add(desk, 0, "t=that", 4, 0);
      desk.setMode(0);
      b.due("mode 0", Checks.abbreviated(desk, "the that t x"), "t t t x");
      b.due("none is marked", desk.result(4), 0);
      desk.setMode(1);
      b.due("mode 1", Checks.abbreviated(desk, "the that t x"), "t that 't x");
    });
    b.at(PART, "In the mode 1, it becomes its short form if the long form of that, at the same place, is the"
        + " word", () -> {
      AbbreviationDesk desk = new AbbreviationDesk();
      Checks.add(desk, 0, "t=the", 5, 0);
      Checks.add(desk, 0, "t=that", 9, 1);
      b.due("another long form at the word 0", Checks.abbreviated(desk, "the the"), "the t");
      b.due("no short form at the word 1", Checks.abbreviated(desk, "that that"), "t that");
    });
    b.at(PART, "otherwise it stays as it is if its own long form there is itself", () -> {
      AbbreviationDesk desk = new AbbreviationDesk();
      Checks.add(desk, 0, "t=the", 5, 0);
      Checks.add(desk, 0, "t=that", 4, 0);
      b.due("that", Checks.abbreviated(desk, "that"), "that");
      b.due("what was done", desk.word(0, 0), 6);
      Checks.add(desk, 0, "t=tha", 3, 0);
      Checks.add(desk, 0, "t=she", 3, 0);
      Checks.add(desk, 0, "t=thy", 3, 0);
      b.due("another first or last letter, one less", Checks.abbreviated(desk, "she thy tha"), "she thy tha");
      Checks.add(desk, 0, "that=thatch", 4, 2);
      b.due("itself at the word 0 alone", Checks.abbreviated(desk, "that that"), "that 'that");
    });
    b.at(PART, "otherwise it becomes marked.", () -> {
      AbbreviationDesk desk = new AbbreviationDesk();
      b.due("itself without rules", Checks.abbreviated(desk, "t"), "t");
      Checks.add(desk, 0, "t=the", 5, 0);
      b.due("the short form of a rule", Checks.abbreviated(desk, "t"), "'t");
      b.due("what was done", desk.word(0, 0), 5);
      Checks.add(desk, 1, "u=un", 5, 0);
      b.due("a beginning, proper and not", Checks.abbreviated(desk, "ux u"), "'ux u");
    });
    b.at(PART, "So in the mode 1 a text that is abbreviated and then expanded is the same again", () -> {
      AbbreviationDesk desk = new AbbreviationDesk();
      Checks.add(desk, 0, "t=the", 5, 0);
      Checks.add(desk, 1, "u=un", 5, 3);
      Checks.add(desk, 2, "n=ning", 5, 4);
      String text = Desks.times(33, "t", " ");
      b.due("as many characters as fit", Checks.abbreviated(desk, text), Desks.times(33, "'t", " "));
      desk.takeBack();
      desk.expand();
      b.due("the same again", Checks.output(desk), text);
      Checks.type(desk, "the a under x running a unning n un u ux xn xning t");
      desk.abbreviate();
      desk.takeBack();
      desk.expand();
      b.due("the same again", Checks.output(desk), "the a under x running a unning n un u ux xn xning t");
    });
  }
}
