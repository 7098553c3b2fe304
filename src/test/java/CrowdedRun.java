import java.util.Set;

/** A run on many rules that get into each other's way, with words that are put together from their forms. */
final class CrowdedRun extends ModelRun {
  private static final int RULES = 24;
  private static final int PAIRS = 30;
  private static final String[] LETTERS = {"ab", "abc", "abe", "abcde"};
  private static final int ROOM = 100;

  CrowdedRun(int run, Set<String> met) {
    super(run, LETTERS[run % LETTERS.length], met);
    setMode(run / 2 % 2);
    if (run % 3 == 0) {
      setThreshold(1);
      learnMuch(20);
      learnMuch(16);
    } else {
      int rules = run % 3 == 1 ? RULES + 1 : 8;
      for (int rule = 0; rule < rules; rule++) {
        addSmallRule();
      }
    }
  }

  private void addSmallRule() {
    String brief = word(random.nextInt(3) == 0 ? 2 : 1);
    String full = letters(brief.length() + 1 + random.nextInt(random.nextInt(9) == 0 ? 8 : 2));
    addRule(brief + "=" + full, upTo(2), upTo(random.nextBoolean() ? 2 : 99), random.nextInt(2) * upTo(4));
  }

  /** Learns pairs with the fewest letters, so that as many as possible stand in one text. */
  private void learnMuch(int pairs) {
    StringBuilder left = new StringBuilder(word(1));
    StringBuilder right = new StringBuilder(letters(2));
    for (int pair = 1; pair < pairs; pair++) {
      left.append(' ').append(word(1));
      right.append(' ').append(letters(2));
    }
    Object added = learn(left + "=" + right);
    if (added instanceof Integer number && number > 1) {
      meet("several rules learned at once");
    }
    if (count(1) instanceof Integer number && number == PAIRS) {
      meet("all pairs");
    }
    if (count(0) instanceof Integer number && number == RULES) {
      meet("all rules");
    }
  }

  private String form(int kind, boolean isLong) {
    int rules = model.count(0);
    for (int times = 0; times < 6 && rules > 0; times++) {
      int rule = random.nextInt(rules);
      if (model.rule(rule, 0) == kind) {
        return model.form(rule, isLong);
      }
    }
    return word(1);
  }

  private String textWord(boolean isLong) {
    switch (random.nextInt(6)) {
      case 0:
        return form(0, isLong);
      case 1:
        return form(1, isLong) + word(2);
      case 2:
        return word(2) + form(2, isLong);
      case 3:
        return overlapped(form(1, isLong), form(2, isLong));
      case 4:
        return form(1, isLong) + form(2, isLong);
      default:
        return form(1, isLong) + word(3) + form(2, isLong);
    }
  }

  /** Both in one word, in which some letters belong to both if they can. */
  private static String overlapped(String head, String tail) {
    for (int start = 1; start < head.length(); start++) {
      if (tail.startsWith(head.substring(start))) {
        return head.substring(0, start) + tail;
      }
    }
    return head + tail;
  }

  private String text(int words, boolean isLong, boolean marks) {
    StringBuilder text = new StringBuilder();
    for (int word = 0; word < words; word++) {
      String next = (marks && random.nextInt(6) == 0 ? "'" : "") + textWord(isLong);
      if (text.length() + 1 + next.length() > ROOM) {
        break;
      }
      text.append(text.length() > 0 ? " " : "").append(next);
    }
    return text.toString();
  }

  @Override
  void step() {
    int choice = random.nextInt(20);
    int rule = upTo(Math.max(0, model.count(0) - 1));
    if (choice < 8) {
      convert(choice);
    } else if (choice < 10) {
      setPriority(rule, upTo(99));
    } else if (choice < 12) {
      setContext(rule, upTo(4));
    } else if (choice < 17) {
      ask(rule);
    } else if (choice == 17) {
      change(rule);
    } else if (choice == 18) {
      remember();
    } else {
      setMode(upTo(1));
    }
  }

  private void convert(int choice) {
    if (choice < 5) {
      type(text(1 + upTo(6), true, false));
      if (firstLost() instanceof Integer word && word > 0) {
        meet("a later word lost");
      }
      abbreviate();
    } else if (choice < 7) {
      type(text(1 + upTo(6), false, true));
      expand();
    } else {
      type(text(40, false, false));
      expand();
    }
    lookAtResult();
    takeBack();
    if (random.nextBoolean()) {
      expand();
    } else {
      abbreviate();
    }
    lookAtResult();
  }

  private void lookAtResult() {
    int words = wordsOfResult();
    for (int times = 0; times < 3; times++) {
      int word = random.nextInt(words);
      if (aboutWord(word, 0) instanceof Integer deed) {
        meet("deed " + deed);
      }
      aboutWord(word, 1 + upTo(4));
    }
    output(random.nextInt(words));
    result(1 + upTo(4));
    shares();
    int row = upTo(1);
    storeLengths(row, upTo(3) == 0);
    copyLengths(row, upTo(words));
    storedBits(1 - row, random.nextInt(words));
  }

  private void ask(int rule) {
    boolean isLong = random.nextBoolean();
    if (shadow(rule, isLong) instanceof Integer by && by >= 0) {
      meet("a shadow");
    }
    rule(rule, 5);
    order(rule);
    if (count(4) instanceof Integer collisions && collisions > 0) {
      meet("a collision");
      collision(random.nextInt(collisions), isLong);
    }
    pair(upTo(Math.max(0, model.count(1) - 1)), random.nextInt(2) * 3);
  }

  private void change(int rule) {
    switch (random.nextInt(4)) {
      case 0:
        removeRule(rule);
        break;
      case 1:
        setThreshold(1 + upTo(2));
        break;
      case 2:
        learnMuch(1 + upTo(6));
        break;
      default:
        addSmallRule();
        break;
    }
  }

  private void remember() {
    switch (random.nextInt(6)) {
      case 0:
        snapshot();
        break;
      case 1:
        restore();
        break;
      case 2:
        isReplayed();
        break;
      default:
        undo();
        break;
    }
  }
}
