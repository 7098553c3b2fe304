import java.util.Objects;
import java.util.Random;
import java.util.concurrent.Callable;

/** Long runs of calls, the same at each start, on the class and on the model of it, compared call by call. */
public final class ModelTest {
  private static final int RUNS = 1500;
  private static final int CALLS = 512;

  private final Random random;
  private final int run;
  private final AbbreviationDesk desk = new AbbreviationDesk();
  private final Model model = new Model();
  private final StringBuilder calls = new StringBuilder();
  private int made;
  private boolean isWrong;
  private final String letters;

  private ModelTest(int run) {
    this.run = run;
    random = new Random(run);
    letters = new String[] {"ab", "aeb", "abcde", "abcdefghijklmnopqrstuvwxyz", "t"}[run % 5];
  }

  public static void main(String[] args) {
    int wrong = 0;
    long all = 0;
    for (int run = 0; run < RUNS && wrong < 5; run++) {
      ModelTest test = new ModelTest(run);
      while (test.made < CALLS && !test.isWrong) {
        test.step();
      }
      all += test.made;
      wrong += test.isWrong ? 1 : 0;
    }
    System.out.println(all + " calls compared with the model, " + wrong + " runs wrong");
    if (wrong != 0) {
      System.exit(1);
    }
  }

  private void same(String call, Callable<?> ofDesk, Callable<?> ofModel) {
    if (isWrong || made >= CALLS) {
      return;
    }
    made++;
    Object got = Checks.answer(ofDesk);
    Object want = Checks.answer(ofModel);
    calls.append(call).append(" -> ").append(got).append('\n');
    if (!Objects.equals(got, want)) {
      isWrong = true;
      System.out.println("run " + run + ":\n" + calls + "due is " + want);
    }
  }

  private int upTo(int most) {
    return random.nextInt(most + 1);
  }

  /** Mostly a number from low to high, sometimes one beside them. */
  private int number(int low, int high) {
    if (random.nextInt(12) == 0) {
      return new int[] {low - 1, high + 1, Integer.MIN_VALUE, Integer.MAX_VALUE}[upTo(3)];
    }
    return low + random.nextInt(Math.max(1, high - low + 1));
  }

  private String word(int most) {
    StringBuilder word = new StringBuilder();
    int length = 1 + random.nextInt(most);
    while (word.length() < length) {
      word.append(letters.charAt(random.nextInt(letters.length())));
    }
    return word.toString();
  }

  private String formOrWord(boolean isLong) {
    if (model.count(0) > 0 && random.nextInt(3) > 0) {
      return model.form(random.nextInt(model.count(0)), isLong);
    }
    return word(random.nextInt(8) == 0 ? 26 : 4);
  }

  private String textWord(boolean isLong, boolean marks) {
    String word = formOrWord(isLong);
    if (random.nextInt(3) == 0) {
      word += formOrWord(isLong);
    }
    return (marks && random.nextInt(5) == 0 ? "'" : "") + word;
  }

  private String text(int most, boolean isLong, boolean marks) {
    StringBuilder text = new StringBuilder(textWord(isLong, marks));
    int words = upTo(most);
    for (int word = 0; word < words; word++) {
      text.append(' ').append(textWord(isLong, marks));
    }
    return text.toString();
  }

  private String spoiled(String text) {
    StringBuilder changed = new StringBuilder(text);
    String strange = "= 'aA1{`~";
    int at = upTo(text.length());
    switch (random.nextInt(3)) {
      case 0:
        changed.insert(at, strange.charAt(random.nextInt(strange.length())));
        break;
      case 1:
        changed.setLength(at);
        break;
      default:
        if (at < text.length()) {
          changed.setCharAt(at, strange.charAt(random.nextInt(strange.length())));
        }
        break;
    }
    return changed.toString();
  }

  private void type(String text) {
    String typed = random.nextInt(6) == 0 ? spoiled(text) : text;
    for (char sign : typed.toCharArray()) {
      same("append " + sign, () -> desk.append(sign), () -> model.append(sign));
    }
  }

  private void step() {
    int choice = random.nextInt(31);
    if (choice < 8) {
      change(choice);
    } else if (choice < 14) {
      convert(choice);
    } else if (choice < 24) {
      ask(choice);
    } else {
      rare(choice);
    }
  }

  private void change(int choice) {
    int rule = number(0, model.count(0) - 1);
    if (choice < 3) {
      type(word(3) + "=" + word(random.nextInt(5) == 0 ? 13 : 5));
      int kind = number(0, 2);
      int priority = number(0, random.nextBoolean() ? 2 : 99);
      int context = number(0, 4);
      same("addRule " + kind + " " + priority + " " + context, () -> desk.addRule(kind, priority, context),
          () -> model.addRule(kind, priority, context));
    } else if (choice < 5) {
      int words = upTo(2);
      StringBuilder left = new StringBuilder(word(3));
      StringBuilder right = new StringBuilder(word(4));
      for (int word = 0; word < words; word++) {
        left.append(' ').append(word(3));
        right.append(' ').append(word(4));
      }
      type(left + "=" + right);
      same("learn", desk::learn, model::learn);
    } else if (choice == 5) {
      int priority = number(0, 99);
      same("setPriority " + rule + " " + priority, () -> desk.setPriority(rule, priority),
          () -> model.setPriority(rule, priority));
    } else if (choice == 6) {
      int context = number(0, 4);
      same("setContext " + rule + " " + context, () -> desk.setContext(rule, context),
          () -> model.setContext(rule, context));
    } else {
      int mode = number(0, 1);
      same("setMode " + mode, () -> desk.setMode(mode), () -> model.setMode(mode));
    }
  }

  private void convert(int choice) {
    if (choice < 11) {
      type(text(5, true, false));
      same("firstLost", desk::firstLost, model::firstLost);
      same("abbreviate", desk::abbreviate, model::abbreviate);
    } else if (choice < 13) {
      type(text(5, false, true));
      same("expand", desk::expand, model::expand);
    } else {
      same("takeBack", desk::takeBack, model::takeBack);
      same("expand", desk::expand, model::expand);
    }
    lookAtResult();
  }

  private void lookAtResult() {
    int words = Checks.answer(() -> model.result(0)) instanceof Integer number ? number : 1;
    int index = number(0, words * 3);
    same("output " + index, () -> desk.output(index), () -> model.output(index));
    for (int times = 0; times < 4; times++) {
      int word = number(0, words - 1);
      int what = number(0, 5);
      same("word " + word + " " + what, () -> desk.word(word, what), () -> model.word(word, what));
      same("result " + what, () -> desk.result(what), () -> model.result(what));
    }
    same("share", desk::share, model::share);
    same("meanPriority", desk::meanPriority, model::meanPriority);
    int row = number(0, 1);
    boolean exact = random.nextBoolean();
    same("storeLengths " + row + " " + exact, () -> desk.storeLengths(row, exact),
        () -> model.storeLengths(row, exact));
    int from = number(0, 1);
    int count = number(0, words);
    same("copyLengths " + from + " " + count, () -> desk.copyLengths(from, count),
        () -> model.copyLengths(from, count));
    int at = number(0, words);
    same("storedBits " + row + " " + at, () -> desk.storedBits(row, at), () -> model.storedBits(row, at));
  }

  private void ask(int choice) {
    int rule = number(0, model.count(0) - 1);
    boolean isLong = random.nextBoolean();
    int what = number(0, 7);
    char letter = letters.charAt(random.nextInt(letters.length()));
    switch (choice) {
      case 14:
        same("rule " + rule + " " + what, () -> desk.rule(rule, what), () -> model.rule(rule, what));
        break;
      case 15:
        same("letter " + rule + " " + isLong + " " + what, () -> desk.letter(rule, isLong, what),
            () -> model.letter(rule, isLong, what));
        break;
      case 16:
        same("count " + what, () -> desk.count(what), () -> model.count(what));
        break;
      case 17:
        int index = number(0, model.count(4) - 1);
        same("collision " + index + " " + isLong, () -> desk.collision(index, isLong),
            () -> model.collision(index, isLong));
        break;
      case 18:
        same("order " + rule, () -> desk.order(rule), () -> model.order(rule));
        break;
      case 19:
        same("shadow " + rule + " " + isLong, () -> desk.shadow(rule, isLong), () -> model.shadow(rule, isLong));
        break;
      case 20:
        char asked = random.nextInt(9) == 0 ? (char) (letter - 32) : letter;
        same("letterCount " + asked, () -> desk.letterCount(asked, isLong), () -> model.letterCount(asked, isLong));
        break;
      case 21:
        int kind = number(-1, 2);
        same("saving " + kind, () -> desk.saving(kind), () -> model.saving(kind));
        break;
      case 22:
        int pair = number(0, model.count(1) - 1);
        int about = number(0, 3);
        same("pair " + pair + " " + about, () -> desk.pair(pair, about), () -> model.pair(pair, about));
        break;
      default:
        same("errorPosition", desk::errorPosition, model::errorPosition);
        break;
    }
  }

  private void rare(int choice) {
    int rule = number(0, model.count(0) - 1);
    switch (choice) {
      case 24:
        same("undo", desk::undo, model::undo);
        break;
      case 25:
        same("isReplayed", desk::isReplayed, model::isReplayed);
        break;
      case 26:
        int threshold = number(1, random.nextBoolean() ? 2 : 9);
        same("setThreshold " + threshold, () -> desk.setThreshold(threshold), () -> model.setThreshold(threshold));
        break;
      case 27:
        if (random.nextInt(3) == 0) {
          same("snapshot", desk::snapshot, model::snapshot);
        } else if (random.nextInt(3) == 0) {
          same("restore", desk::restore, model::restore);
        }
        break;
      case 28:
        if (random.nextInt(8) == 0) {
          same("clear", desk::clear, model::clear);
        }
        break;
      case 29:
        same("removeRule " + rule, () -> desk.removeRule(rule), () -> model.removeRule(rule));
        break;
      default:
        type(word(3));
        break;
    }
  }
}
