import java.util.function.Supplier;

/** The boundaries of the promises about learning, texts and shares, 18 to 29, sentence by sentence. */
final class TextBoundaries {
  private static final String NO_RESULT = "Throws `IllegalStateException` if there is no result";
  private static final String WHAT = "Throws `IllegalArgumentException` if what is out of range";
  private final Boundaries b;

  TextBoundaries(Boundaries boundaries) {
    b = boundaries;
  }

  void run() {
    learn();
    pair();
    abbreviate();
    expand();
    errorPosition();
    output();
    takeBack();
    word();
    wordNumbers();
    wordRefused();
    result();
    firstLost();
    firstLostRefused();
    share();
    meanPriority();
  }

  /** A call is refused as long as nothing was abbreviated or expanded, also when texts were malformed. */
  private void noResult(String promise, Call call) {
    b.at(promise, NO_RESULT, () -> {
      b.refused("new", AbbreviationDesk::new, call, Boundaries.ISE);
      b.refused("full buffer", () -> Desks.withBuffer(Desks.times(100, "b", "")), call, Boundaries.ISE);
      Supplier<AbbreviationDesk> malformed = () -> {
        AbbreviationDesk desk = Desks.withRules(2);
        Checks.type(desk, "B");
        Checks.answer(() -> desk.abbreviate());
        Checks.answer(() -> desk.expand());
        Checks.type(desk, "b");
        desk.firstLost();
        return desk;
      };
      b.refused("after malformed texts", malformed, call, Boundaries.ISE);
      AbbreviationDesk one = new AbbreviationDesk();
      Checks.expanded(one, "b");
      b.due("with a result", Boundaries.ISE.equals(Checks.answer(() -> call.on(one))), false);
      one.clear();
      b.due("after clear", Boundaries.ISE.equals(Checks.answer(() -> call.on(one))), false);
    });
  }

  private void learn() {
    b.at("Promise 18", "The buffer is empty afterwards in any case.", () -> {
      AbbreviationDesk desk = new AbbreviationDesk();
      for (String text : new String[] {"b=cc", "b=b", "", "b", "b c=dd", Desks.times(100, "b", "")}) {
        Checks.type(desk, text);
        Checks.answer(() -> desk.learn());
        b.due("after '" + text + "'", desk.count(5), 0);
      }
    });
    b.at("Promise 18", "Returns the number of rules that are added.", () -> {
      AbbreviationDesk desk = new AbbreviationDesk();
      b.due("new pairs", Checks.learn(desk, "b c=cc dd"), 0);
      b.due("one known and one new", Checks.learn(desk, "b d=cc ee"), 1);
      b.due("a pair twice", Checks.learn(desk, "f f=ff ff"), 1);
      desk.setThreshold(1);
      String left = "a b c d e f g h i j k l m n o p q r s t";
      String right = "za zb zc zd ze zf zg zh zi zj zk zl zm zn zo zp zq zr zs zt";
      b.due("as many as fit in a text", Checks.learn(desk, left + "=" + right), 20);
      b.due("rules", desk.count(0), 22);
      b.due("up to 24 rules", Checks.learn(desk, "u v w x=zu zv zw zx"), 2);
      b.due("none any more", Checks.learn(desk, "y=zy"), 0);
    });
    b.at("Promise 18", "Throws `IllegalArgumentException` if the text is malformed as a text of pairs; the error"
        + " position is then kept for errorPosition", () -> {
      b.malformed("", AbbreviationDesk::learn, 0, true);
      b.malformed("b", AbbreviationDesk::learn, 1, true);
      b.malformed("b=", AbbreviationDesk::learn, 2, true);
      b.malformed("b c=dd", AbbreviationDesk::learn, 6, true);
      b.malformed("b c=dd ee ff", AbbreviationDesk::learn, 9, true);
      b.malformed("b='cc", AbbreviationDesk::learn, 2, true);
      b.malformed("b=" + Desks.letters(25), AbbreviationDesk::learn, 26, true);
      String hundred = "b c=" + Desks.letters(24) + " " + Desks.letters(24) + Desks.times(47, " ", "");
      b.malformed(hundred, AbbreviationDesk::learn, 53, true);
    });
  }

  private void pair() {
    b.at("Promise 19", "0 for its count, 1 for the letters of its short form, as a number, 2 for those of its long"
        + " form, as a number, 3 for the lowest number of a rule for words with these forms, -1 if there is"
        + " none", () -> {
      AbbreviationDesk desk = new AbbreviationDesk();
      Checks.learn(desk, "b bcdefg=cc " + Desks.letters(12));
      int[][] due = {{1, 1, 2, -1}, {1, 6, 12, -1}};
      for (int pair = 0; pair <= 1; pair++) {
        for (int what = 0; what <= 3; what++) {
          b.due("pair " + pair + ", " + what, desk.pair(pair, what), due[pair][what]);
        }
      }
      for (int kind = 2; kind >= 1; kind--) {
        Checks.add(desk, kind, "b=cc", 99, 0);
        b.due("a rule of the kind " + kind, desk.pair(0, 3), -1);
      }
      Checks.add(desk, 0, "b=ccc", 99, 0);
      Checks.add(desk, 0, "c=cc", 99, 0);
      b.due("rules with other forms", desk.pair(0, 3), -1);
      Checks.add(desk, 0, "b=cc", 1, 4);
      Checks.add(desk, 0, "b=cc", 99, 0);
      b.due("the lower one of two", desk.pair(0, 3), 4);
      desk.removeRule(0);
      b.due("when one before it is removed", desk.pair(0, 3), 3);
      desk.removeRule(3);
      b.due("when it is removed", desk.pair(0, 3), 3);
      desk.removeRule(3);
      b.due("when both are", desk.pair(0, 3), -1);
      Checks.add(desk, 0, "bcdefg=" + Desks.letters(12), 1, 4);
      b.due("the longest forms", desk.pair(1, 3), 3);
      AbbreviationDesk first = new AbbreviationDesk();
      first.setThreshold(1);
      Checks.learn(first, "b=cc");
      b.due("rule 0", first.pair(0, 3), 0);
    });
    b.at("Promise 19", "Throws `IndexOutOfBoundsException` if there is no such pair", () -> {
      for (int pairs : new int[] {0, 1, 29, 30}) {
        for (int pair : new int[] {-1, pairs, pairs + 1, Integer.MIN_VALUE, Integer.MAX_VALUE}) {
          b.refused("pair " + pair + " of " + pairs, () -> Desks.withPairs(pairs), desk -> desk.pair(pair, 0),
              Boundaries.IOOBE);
        }
      }
      b.due("the first of 30", Desks.withPairs(30).pair(0, 0), 1);
      b.due("the last of 30", Desks.withPairs(30).pair(29, 0), 1);
    });
    b.at("Promise 19", WHAT, () -> {
      for (int what : new int[] {-1, 4, Integer.MIN_VALUE, Integer.MAX_VALUE}) {
        b.refused("what " + what, Desks::busy, desk -> desk.pair(1, what), Boundaries.IAE);
      }
    });
  }

  /** What a call that reads a text leaves of the buffer, and what it answers. */
  private void emptied(String promise, Call call) {
    b.at(promise, "The buffer is empty afterwards in any case.", () -> {
      AbbreviationDesk desk = new AbbreviationDesk();
      for (String text : new String[] {"b", "", "B", "b ", Desks.times(50, "b", " "), Desks.times(100, "b", "")}) {
        Checks.type(desk, text);
        Checks.answer(() -> call.on(desk));
        b.due("after '" + text + "'", desk.count(5), 0);
      }
    });
  }

  private void abbreviate() {
    Call call = AbbreviationDesk::abbreviate;
    b.at("Promise 20", "Abbreviates the text in the input buffer, which must have no marked words.", () -> {
      b.read("'b", call, 0);
      b.read("b 'c", call, 2);
      b.read("b'", call, 1);
      b.read("b c", call, -1);
    });
    emptied("Promise 20", call);
    b.at("Promise 20", "Returns the number of characters of the result.", () -> {
      AbbreviationDesk desk = new AbbreviationDesk();
      Checks.add(desk, 0, "b=" + Desks.letters(12), 5, 0);
      Checks.type(desk, "c");
      b.due("the shortest text", desk.abbreviate(), 1);
      Checks.type(desk, Desks.letters(12));
      b.due("the shortest form", desk.abbreviate(), 1);
      Checks.type(desk, "b");
      b.due("a marked word", desk.abbreviate(), 2);
      Checks.type(desk, Desks.times(50, "b", " "));
      b.due("fifty marked words", desk.abbreviate(), 149);
      b.due("the longest text", Desks.withBuffer(Desks.longestText()).abbreviate(), 100);
    });
    b.at("Promise 20", "Throws `IllegalArgumentException` if the text is malformed; the error position is then kept"
        + " for errorPosition", () -> {
      b.malformed("", call, 0, true);
      b.malformed(" b", call, 0, true);
      b.malformed("b ", call, 2, true);
      b.malformed("b 'c", call, 2, true);
      b.malformed("b=cc", call, 1, true);
      b.malformed(Desks.letters(25), call, 24, true);
      b.malformed(Desks.times(50, "b ", ""), call, 100, true);
      b.malformed(Desks.times(49, "b ", "") + "b{", call, 99, true);
    });
  }

  private void expand() {
    Call call = AbbreviationDesk::expand;
    b.at("Promise 21", "Expands the text in the input buffer, which can have marked words.", () -> {
      b.read("'b", call, -1);
      b.read("b 'c", call, -1);
      b.read("b'", call, 1);
      b.read("b ''c", call, 3);
      AbbreviationDesk desk = new AbbreviationDesk();
      b.due("marked words alone", Checks.expanded(desk, Desks.times(33, "'b", " ")), Desks.times(33, "b", " "));
      b.due("what was done with the last", desk.word(32, 0), 5);
    });
    emptied("Promise 21", call);
    b.at("Promise 21", "Returns the number of characters of the result.", () -> {
      AbbreviationDesk desk = new AbbreviationDesk();
      Checks.add(desk, 0, "b=" + Desks.letters(12), 5, 0);
      Checks.type(desk, "c");
      b.due("the shortest text", desk.expand(), 1);
      Checks.type(desk, "'b");
      b.due("a mark taken away", desk.expand(), 1);
      Checks.type(desk, "b");
      b.due("the longest form", desk.expand(), 12);
      Checks.type(desk, Desks.times(50, "b", " "));
      b.due("fifty of them", desk.expand(), 649);
      b.due("the longest text", Desks.withBuffer(Desks.longestText()).expand(), 100);
    });
    b.at("Promise 21", "Throws `IllegalArgumentException` if the text is malformed; the error position is then kept"
        + " for errorPosition", () -> {
      b.malformed("", call, 0, true);
      b.malformed("'", call, 1, true);
      b.malformed("''b", call, 1, true);
      b.malformed("b '", call, 3, true);
      b.malformed("b=cc", call, 1, true);
      b.malformed("'" + Desks.letters(25), call, 25, true);
      b.malformed(Desks.times(50, "b ", ""), call, 100, true);
      b.malformed(Desks.longestText().substring(0, 99) + "'", call, 99, true);
    });
  }

  private void errorPosition() {
    b.at("Promise 22", "Returns the error position of the last text that was malformed, whatever was read after"
        + " it.", () -> {
      AbbreviationDesk desk = new AbbreviationDesk();
      Call[] calls = {
        one -> one.addRule(0, 0, 0), AbbreviationDesk::learn, AbbreviationDesk::abbreviate, AbbreviationDesk::expand,
        AbbreviationDesk::firstLost,
      };
      String[] rights = {"b=cc", "b=cc", "b", "'b", "b"};
      for (int call = 0; call < calls.length; call++) {
        int at = call;
        Checks.type(desk, "bbb".substring(0, call % 3) + "B");
        b.due("call " + call, () -> calls[at].on(desk), Boundaries.IAE);
        b.due("its position", desk.errorPosition(), call % 3);
        for (int right = 0; right < rights.length; right++) {
          int then = right;
          Checks.answer(() -> desk.expand());
          // An empty buffer is malformed, too, so that the position is made anew.
          Checks.type(desk, "bbb".substring(0, call % 3) + "B");
          Checks.answer(() -> calls[at].on(desk));
          Checks.answer(() -> emptyRightly(desk));
          Checks.type(desk, rights[right]);
          b.due("a right text for call " + right, () -> calls[then].on(desk) instanceof Integer, true);
          b.due("the position stays", desk.errorPosition(), call % 3);
          Checks.answer(() -> emptyRightly(desk));
        }
      }
    });
    b.at("Promise 22", "Throws `NoSuchElementException` if there was none", () -> {
      b.refused("new", AbbreviationDesk::new, desk -> desk.errorPosition(), Boundaries.NSE);
      b.refused("right texts alone", () -> {
        AbbreviationDesk desk = Desks.withRules(24);
        Checks.learn(desk, "b=cc");
        Checks.abbreviated(desk, "b");
        Checks.expanded(desk, "'b");
        Checks.type(desk, "b");
        desk.firstLost();
        return desk;
      }, desk -> desk.errorPosition(), Boundaries.NSE);
      AbbreviationDesk empty = new AbbreviationDesk();
      Checks.answer(() -> empty.addRule(-1, 0, 0));
      b.due("no such kind", () -> empty.errorPosition(), Boundaries.NSE);
      Checks.answer(() -> empty.addRule(0, 0, 0));
      b.due("position 0", empty.errorPosition(), 0);
      empty.clear();
      b.due("after clear", empty.errorPosition(), 0);
    });
  }

  /** Empties the buffer without a malformed text: the result, which fits, is put into it and expanded. */
  private static int emptyRightly(AbbreviationDesk desk) {
    desk.takeBack();
    return desk.expand();
  }

  private void output() {
    b.at("Promise 23", "- `index`: the index, from 0", () -> {
      AbbreviationDesk desk = new AbbreviationDesk();
      Checks.abbreviated(desk, "bc de");
      String due = "bc de";
      for (int index = 0; index < due.length(); index++) {
        b.due("index " + index, desk.output(index), due.charAt(index));
      }
    });
    noResult("Promise 23", desk -> desk.output(0));
    b.at("Promise 23", "Throws `IndexOutOfBoundsException` if there is no such index", () -> {
      for (int size : new int[] {1, 2, 99}) {
        Supplier<AbbreviationDesk> made = () -> {
          AbbreviationDesk desk = new AbbreviationDesk();
          Checks.type(desk, size == 2 ? "bc" : Desks.times(size / 2 + 1, "b", " "));
          desk.expand();
          return desk;
        };
        for (int index : new int[] {-1, size, size + 1, Integer.MIN_VALUE, Integer.MAX_VALUE}) {
          b.refused("index " + index + " of " + size, made, desk -> desk.output(index), Boundaries.IOOBE);
        }
        b.due("the last of " + size, made.get().output(size - 1), size == 2 ? 'c' : 'b');
      }
      AbbreviationDesk shorter = new AbbreviationDesk();
      Checks.abbreviated(shorter, "bbb");
      Checks.abbreviated(shorter, "bb");
      b.due("an index of an earlier result", () -> shorter.output(2), Boundaries.IOOBE);
    });
  }

  /** A result of some characters, in a text of marked words and one more. */
  private static AbbreviationDesk withResult(int size) {
    AbbreviationDesk desk = new AbbreviationDesk();
    Checks.add(desk, 0, "b=cc", 5, 0);
    // A marked word and the space behind it are three characters.
    int marked = (size - 1) / 3;
    Checks.type(desk, Desks.times(marked, "b ", "") + Desks.times(size - 3 * marked, "d", ""));
    desk.abbreviate();
    return desk;
  }

  private void takeBack() {
    b.at("Promise 24", "Returns the number of characters in the buffer.", () -> {
      for (int size : new int[] {1, 2, 99, 100}) {
        AbbreviationDesk desk = withResult(size);
        b.due("characters of the result", desk.result(1), size);
        b.due("characters", desk.takeBack(), size);
        b.due("characters then", desk.count(5), size);
      }
    });
    b.at("Promise 24", "Puts the result into the input buffer, in place of what is in it.", () -> {
      AbbreviationDesk desk = withResult(100);
      b.due("characters of the result", desk.result(1), 100);
      b.due("into an empty buffer", desk.takeBack(), 100);
      b.due("into a full one", desk.takeBack(), 100);
      b.due("which is full again", () -> desk.append('b'), Boundaries.UOE);
      desk.expand();
      Checks.expanded(desk, "'b");
      Checks.type(desk, Desks.times(100, "x", ""));
      b.due("one character in place of 100", desk.takeBack(), 1);
      b.due("characters", desk.count(5), 1);
      b.due("one more", desk.append('z'), 2);
      desk.abbreviate();
      b.due("what was in the buffer", Checks.output(desk), "bz");
    });
    noResult("Promise 24", desk -> desk.takeBack());
    b.at("Promise 24", "Throws `UnsupportedOperationException` if the result has more than 100 characters", () -> {
      for (int size : new int[] {99, 100}) {
        b.due("characters", withResult(size).takeBack(), size);
      }
      for (int size : new int[] {101, 102, 130}) {
        b.due("characters", withResult(size).result(1), size);
        b.refused("characters " + size, () -> withResult(size), desk -> desk.takeBack(), Boundaries.UOE);
        b.refused("characters " + size + ", with a buffer", () -> {
          AbbreviationDesk desk = withResult(size);
          Checks.type(desk, "b 'c");
          return desk;
        }, desk -> desk.takeBack(), Boundaries.UOE);
      }
    });
  }

  private static AbbreviationDesk withAllDeeds() {
    AbbreviationDesk desk = new AbbreviationDesk();
    Checks.add(desk, 2, "g=ing", 3, 0);
    Checks.add(desk, 0, "t=the", 3, 0);
    Checks.add(desk, 1, "u=un", 3, 0);
    Checks.add(desk, 0, "t=that", 2, 0);
    return desk;
  }

  private void word() {
    b.at("Promise 25", "0 for what was done: 0 it stayed, and no rule was found, 1 a rule for words was used, 2 one"
        + " for beginnings, 3 one for ends, 4 one for beginnings and one for ends, 5 it was marked, or the mark was"
        + " taken away, 6 it stayed though rules were found", () -> {
      AbbreviationDesk desk = withAllDeeds();
      Checks.abbreviated(desk, "x the under going unding t that");
      for (int word = 0; word <= 6; word++) {
        b.due("done with word " + word, desk.word(word, 0), word);
      }
      Checks.expanded(desk, "x t uder gog udg 't that");
      int[] due = {0, 1, 2, 3, 4, 5, 0};
      for (int word = 0; word <= 6; word++) {
        b.due("done with word " + word + ", expanded", desk.word(word, 0), due[word]);
      }
      Checks.add(desk, 1, "z=tha", 9, 0);
      Checks.add(desk, 1, "z=tho", 99, 0);
      b.due("a rule for beginnings that is not restored", Checks.abbreviated(desk, "thax"), "thax");
      b.due("done with it", desk.word(0, 0), 6);
      b.due("no number", desk.word(0, 1), -1);
    });
  }

  private void wordNumbers() {
    b.at("Promise 25", "1 for the number that the rule for words or beginnings that was used had then, -1 without"
        + " one, 2 for that of the rule for ends, -1 without one", () -> {
      AbbreviationDesk desk = withAllDeeds();
      Checks.abbreviated(desk, "x the under going unding t that");
      int[] mains = {-1, 1, 2, -1, 2, -1, -1};
      int[] ends = {-1, -1, -1, 0, 0, -1, -1};
      desk.removeRule(0);
      for (int word = 0; word <= 6; word++) {
        b.due("main rule of word " + word, desk.word(word, 1), mains[word]);
        b.due("end rule of word " + word, desk.word(word, 2), ends[word]);
      }
      AbbreviationDesk full = Desks.withRules(21);
      full.setMode(0);
      for (int kind = 0; kind <= 2; kind++) {
        Checks.add(full, kind, kind + 1 == 2 ? "x=xyz" : kind == 0 ? "w=wxyz" : "z=zyx", 99, 0);
      }
      Checks.abbreviated(full, "wxyz xyzzyx");
      b.due("all numbers of the last three rules", Checks.words(full), "1,21,-1,4,1,0;4,22,23,6,2,2;");
    });
    b.at("Promise 25", "3 for the letters of the word that was given, as a number, 4 for those of the word in the"
        + " result, as a number, both without an apostrophe, 5 for the index of its first character in the"
        + " result", () -> {
      AbbreviationDesk desk = new AbbreviationDesk();
      Checks.add(desk, 0, "b=" + Desks.letters(12), 0, 0);
      Checks.abbreviated(desk, Desks.letters(24) + " b " + Desks.letters(12) + " c");
      b.due("abbreviated", Checks.words(desk), "0,-1,-1,24,24,0;5,-1,-1,1,1,25;1,0,-1,12,1,28;0,-1,-1,1,1,30;");
      Checks.expanded(desk, "'" + Desks.letters(24) + " 'b b c");
      b.due("expanded", Checks.words(desk), "5,-1,-1,24,24,0;5,-1,-1,1,1,25;1,0,-1,1,12,27;0,-1,-1,1,1,40;");
      Checks.abbreviated(desk, Desks.times(50, "b", " "));
      b.due("the last of fifty marked words", desk.word(49, 5), 147);
      b.due("its character", desk.output(147), '\'');
    });
  }

  private void wordRefused() {
    noResult("Promise 25", desk -> desk.word(0, 0));
    b.at("Promise 25", "Throws `IndexOutOfBoundsException` if there is no such word", () -> {
      for (int words : new int[] {1, 2, 49, 50}) {
        Supplier<AbbreviationDesk> made = () -> {
          AbbreviationDesk desk = new AbbreviationDesk();
          Checks.type(desk, Desks.times(words, "b", " "));
          desk.abbreviate();
          return desk;
        };
        for (int word : new int[] {-1, words, words + 1, Integer.MIN_VALUE, Integer.MAX_VALUE}) {
          b.due("word " + word + " of " + words, () -> made.get().word(word, 0), Boundaries.IOOBE);
        }
        b.due("the last of " + words, made.get().word(words - 1, 3), 1);
      }
      b.refused("word 3 of 3", Desks::busy, desk -> desk.word(3, 0), Boundaries.IOOBE);
      b.refused("word -1", Desks::busy, desk -> desk.word(-1, 0), Boundaries.IOOBE);
      AbbreviationDesk shorter = new AbbreviationDesk();
      Checks.abbreviated(shorter, "b b b");
      Checks.abbreviated(shorter, "b b");
      b.due("a word of an earlier result", () -> shorter.word(2, 0), Boundaries.IOOBE);
    });
    b.at("Promise 25", WHAT, () -> {
      for (int what : new int[] {-1, 6, Integer.MIN_VALUE, Integer.MAX_VALUE}) {
        b.refused("what " + what, Desks::busy, desk -> desk.word(2, what), Boundaries.IAE);
      }
    });
  }

  private void result() {
    b.at("Promise 26", "0 for its words, 1 for its characters, 2 for the characters of the text that was given, 3 for"
        + " the uses of rules, where two rules for a word are two uses, 4 for its marked words, 5 for 1 if it was"
        + " abbreviated and 0 if it was expanded", () -> {
      AbbreviationDesk desk = withAllDeeds();
      String[] texts = {"x", "x the under going unding t that", Desks.times(50, "t", " ")};
      int[][] abbreviated = {{1, 1, 1, 0, 0, 1}, {7, 24, 31, 5, 1, 1}, {50, 149, 99, 0, 50, 1}};
      int[][] expanded = {{1, 1, 1, 0, 0, 0}, {7, 39, 31, 5, 0, 0}, {50, 199, 99, 50, 0, 0}};
      for (int text = 0; text < texts.length; text++) {
        Checks.type(desk, texts[text]);
        desk.abbreviate();
        for (int what = 0; what <= 5; what++) {
          b.due("abbreviated " + texts[text] + ", " + what, desk.result(what), abbreviated[text][what]);
        }
      }
      AbbreviationDesk other = withAllDeeds();
      for (int text = 0; text < texts.length; text++) {
        Checks.type(other, texts[text]);
        other.expand();
        for (int what = 0; what <= 5; what++) {
          b.due("expanded " + texts[text] + ", " + what, other.result(what), expanded[text][what]);
        }
      }
      Checks.expanded(other, "udg 't 't");
      b.due("uses of two rules for a word", other.result(3), 2);
      b.due("marks that are taken away", other.result(4), 0);
      b.due("characters with apostrophes", other.result(2), 9);
    });
    noResult("Promise 26", desk -> desk.result(0));
    b.at("Promise 26", WHAT, () -> {
      for (int what : new int[] {-1, 6, Integer.MIN_VALUE, Integer.MAX_VALUE}) {
        b.refused("what " + what, Desks::busy, desk -> desk.result(what), Boundaries.IAE);
      }
    });
  }

  private static AbbreviationDesk losing() {
    AbbreviationDesk desk = new AbbreviationDesk();
    Checks.add(desk, 0, "t=the", 5, 0);
    desk.setMode(0);
    return desk;
  }

  private void firstLost() {
    b.at("Promise 27", "Returns the first word of the text in the input buffer that would not be restored if the text"
        + " was abbreviated, and what comes of it expanded, by the present rules and the present mode.", () -> {
      for (int lost : new int[] {0, 1, 25, 48, 49}) {
        AbbreviationDesk desk = losing();
        Checks.type(desk, Desks.times(lost, "x ", "") + "t" + Desks.times(49 - lost, " x", ""));
        b.due("word " + lost + " of fifty", desk.firstLost(), lost);
        desk.setMode(1);
        b.due("in the mode 1", desk.firstLost(), -1);
        desk.setMode(0);
        desk.removeRule(0);
        b.due("without the rule", desk.firstLost(), -1);
      }
      AbbreviationDesk two = losing();
      Checks.type(two, "the t the t");
      b.due("the first of two", two.firstLost(), 1);
    });
    b.at("Promise 27", "if the text was abbreviated, and what comes of it expanded", () -> {
      int[] due = {0, 0, 2, 4, 2};
      for (int context = 0; context <= 4; context++) {
        AbbreviationDesk desk = losing();
        Checks.add(desk, 0, "t=that", 9, context);
        Checks.type(desk, "the x the a the");
        b.due("another long form in the context " + context, desk.firstLost(), due[context]);
      }
    });
    b.at("Promise 27", "The buffer stays, the result, too.", () -> {
      String[] texts = {"the", "t the", "b " + Desks.letters(24), Desks.times(100, "b", ""), "'b", ""};
      for (String text : texts) {
        var before = Looks.after(() -> Desks.busyWith(text), desk -> null);
        var after = Looks.after(() -> Desks.busyWith(text), AbbreviationDesk::firstLost);
        before.remove("error position");
        after.remove("error position");
        b.due("all but the error position, '" + text + "'", after, before);
      }
    });
    b.at("Promise 27", "Returns the word, or -1 if the whole text would be restored.", () -> {
      AbbreviationDesk desk = losing();
      Checks.type(desk, "the");
      b.due("one word", desk.firstLost(), -1);
      desk.abbreviate();
      Checks.type(desk, Desks.times(25, "the", " "));
      b.due("a text of many", desk.firstLost(), -1);
      b.due("once more", desk.firstLost(), -1);
      desk.abbreviate();
      Checks.type(desk, "t");
      b.due("word 0 alone", desk.firstLost(), 0);
    });
  }

  private void firstLostRefused() {
    b.at("Promise 27", "Throws `IllegalArgumentException` if the text is malformed as a text without marked words;"
        + " the error position is then kept for errorPosition", () -> {
      Call call = AbbreviationDesk::firstLost;
      b.malformed("", call, 0, false);
      b.malformed("'b", call, 0, false);
      b.malformed("b 'c", call, 2, false);
      b.malformed("b ", call, 2, false);
      b.malformed("b=cc", call, 1, false);
      b.malformed(Desks.letters(25), call, 24, false);
      b.malformed(Desks.times(50, "b ", ""), call, 100, false);
    });
  }

  private void share() {
    b.at("Promise 28", "the former number divided by the latter one, both converted to double.", () -> {
      AbbreviationDesk desk = new AbbreviationDesk();
      Checks.add(desk, 0, "b=" + Desks.letters(12), 5, 0);
      Checks.abbreviated(desk, "c");
      b.due("1 of 1", desk.share(), 1.0);
      Checks.abbreviated(desk, Desks.letters(12));
      b.due("1 of 12", desk.share(), 1.0 / 12.0);
      Checks.expanded(desk, "b");
      b.due("12 of 1", desk.share(), 12.0);
      Checks.abbreviated(desk, "b");
      b.due("2 of 1", desk.share(), 2.0);
      Checks.expanded(desk, "'b");
      b.due("1 of 2", desk.share(), 0.5);
      Checks.type(desk, Desks.times(50, "b", " "));
      desk.expand();
      b.due("649 of 99", desk.share(), 649.0 / 99.0);
    });
    noResult("Promise 28", desk -> desk.share());
  }

  private void meanPriority() {
    b.at("Promise 29", "the sum over all uses divided by the number of uses, both converted to float.", () -> {
      AbbreviationDesk desk = new AbbreviationDesk();
      Checks.add(desk, 0, "b=cc", 0, 0);
      Checks.add(desk, 0, "d=ee", 99, 0);
      Checks.add(desk, 1, "f=gg", 1, 0);
      Checks.add(desk, 2, "h=ii", 2, 0);
      Checks.abbreviated(desk, "cc");
      b.due("one use of 0", desk.meanPriority(), 0f);
      Checks.abbreviated(desk, "ee");
      b.due("one use of 99", desk.meanPriority(), 99f);
      Checks.abbreviated(desk, "ee cc x cc");
      b.due("99 by 3", desk.meanPriority(), 33f);
      Checks.abbreviated(desk, "ggii");
      b.due("two rules for a word", desk.meanPriority(), 1.5f);
      Checks.abbreviated(desk, "ggx ggx xii xii xii cc cc");
      b.due("8 by 7", desk.meanPriority(), 8f / 7f);
      Checks.type(desk, Desks.times(50, "d", " "));
      desk.expand();
      b.due("fifty uses", desk.meanPriority(), 99f);
    });
    noResult("Promise 29", desk -> desk.meanPriority());
    b.at("Promise 29", "Throws `ArithmeticException` if no rule was used", () -> {
      for (String text : new String[] {"x", "t", "that", "x t that"}) {
        b.refused("abbreviated " + text, () -> {
          AbbreviationDesk desk = withAllDeeds();
          Checks.type(desk, text);
          desk.abbreviate();
          return desk;
        }, desk -> desk.meanPriority(), Boundaries.ARITHMETIC);
      }
      b.refused("expanded", () -> {
        AbbreviationDesk desk = withAllDeeds();
        Checks.type(desk, "'t 'udg that");
        desk.expand();
        return desk;
      }, desk -> desk.meanPriority(), Boundaries.ARITHMETIC);
    });
  }
}
