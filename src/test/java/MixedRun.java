import java.util.Set;

/** A run of all calls, with wrong numbers and spoiled texts among them, on few rules. */
final class MixedRun extends ModelRun {
  private static final String[] LETTERS = {"ab", "aeb", "abcde", "abcdefghijklmnopqrstuvwxyz", "t"};

  MixedRun(int run, Set<String> met) {
    super(run, LETTERS[run % LETTERS.length], met);
  }

  private String formOrWord(boolean isLong) {
    if (model.count(0) > 0 && random.nextInt(3) > 0) {
      return model.form(random.nextInt(model.count(0)), isLong);
    }
    return word(random.nextInt(8) == 0 ? 26 : 4);
  }

  private String textWord(boolean isLong, boolean marks) {
    String word = formOrWord(isLong);
    if (random.nextInt(3) == 0) {
      word += formOrWord(isLong);
    }
    return (marks && random.nextInt(5) == 0 ? "'" : "") + word;
  }

  private String text(int most, boolean isLong, boolean marks) {
    StringBuilder text = new StringBuilder(textWord(isLong, marks));
    int words = upTo(most);
    for (int word = 0; word < words; word++) {
      text.append(' ').append(textWord(isLong, marks));
    }
    return text.toString();
  }

  private String perhapsSpoiled(String text) {
    if (random.nextInt(6) > 0) {
      return text;
    }
    StringBuilder changed = new StringBuilder(text);
    String strange = "= 'aA1{`~";
    int at = upTo(text.length());
    switch (random.nextInt(3)) {
      case 0:
        changed.insert(at, strange.charAt(random.nextInt(strange.length())));
        break;
      case 1:
        changed.setLength(at);
        break;
      default:
        if (at < text.length()) {
          changed.setCharAt(at, strange.charAt(random.nextInt(strange.length())));
        }
        break;
    }
    return changed.toString();
  }

  @Override
  void step() {
    int choice = random.nextInt(31);
    if (choice < 8) {
      change(choice);
    } else if (choice < 14) {
      convert(choice);
    } else if (choice < 24) {
      ask(choice);
    } else {
      rare(choice);
    }
  }

  private void change(int choice) {
    int rule = number(0, model.count(0) - 1);
    if (choice < 3) {
      String text = word(3) + "=" + word(random.nextInt(5) == 0 ? 13 : 5);
      addRule(perhapsSpoiled(text), number(0, 2), number(0, random.nextBoolean() ? 2 : 99), number(0, 4));
    } else if (choice < 5) {
      int words = upTo(2);
      StringBuilder left = new StringBuilder(word(3));
      StringBuilder right = new StringBuilder(word(4));
      for (int word = 0; word < words; word++) {
        left.append(' ').append(word(3));
        right.append(' ').append(word(4));
      }
      learn(perhapsSpoiled(left + "=" + right));
    } else if (choice == 5) {
      setPriority(rule, number(0, 99));
    } else if (choice == 6) {
      setContext(rule, number(0, 4));
    } else {
      setMode(number(0, 1));
    }
  }

  private void convert(int choice) {
    if (choice < 11) {
      type(perhapsSpoiled(text(5, true, false)));
      firstLost();
      abbreviate();
    } else if (choice < 13) {
      type(perhapsSpoiled(text(5, false, true)));
      expand();
    } else {
      takeBack();
      expand();
    }
    lookAtResult();
  }

  private void lookAtResult() {
    int words = wordsOfResult();
    output(number(0, words * 3));
    for (int times = 0; times < 4; times++) {
      int what = number(0, 5);
      aboutWord(number(0, words - 1), what);
      result(what);
    }
    shares();
    int row = number(0, 1);
    storeLengths(row, random.nextBoolean());
    copyLengths(number(0, 1), number(0, words));
    storedBits(row, number(0, words));
  }

  private void ask(int choice) {
    int rule = number(0, model.count(0) - 1);
    boolean isLong = random.nextBoolean();
    int what = number(0, 7);
    char letter = letters.charAt(random.nextInt(letters.length()));
    switch (choice) {
      case 14:
        rule(rule, what);
        break;
      case 15:
        letter(rule, isLong, what);
        break;
      case 16:
        count(what);
        break;
      case 17:
        collision(number(0, model.count(4) - 1), isLong);
        break;
      case 18:
        order(rule);
        break;
      case 19:
        shadow(rule, isLong);
        break;
      case 20:
        letterCount(random.nextInt(9) == 0 ? (char) (letter - 32) : letter, isLong);
        break;
      case 21:
        saving(number(-1, 2));
        break;
      case 22:
        pair(number(0, model.count(1) - 1), number(0, 3));
        break;
      default:
        errorPosition();
        break;
    }
  }

  private void rare(int choice) {
    switch (choice) {
      case 24:
        undo();
        break;
      case 25:
        isReplayed();
        break;
      case 26:
        setThreshold(number(1, random.nextBoolean() ? 2 : 9));
        break;
      case 27:
        if (random.nextInt(3) == 0) {
          snapshot();
        } else if (random.nextInt(3) == 0) {
          restore();
        }
        break;
      case 28:
        if (random.nextInt(8) == 0) {
          clear();
        }
        break;
      case 29:
        removeRule(number(0, model.count(0) - 1));
        break;
      default:
        type(perhapsSpoiled(word(3)));
        break;
    }
  }
}
