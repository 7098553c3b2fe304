import java.util.Objects;
import java.util.concurrent.Callable;

/** What the tests share: counting wrong answers, naming exceptions, typing texts. */
final class Checks {
  private int wrong;
  private int checked;
  private String part = "";

  void part(String name) {
    part = name;
  }

  int checked() {
    return checked;
  }

  void due(String what, Object got, Object want) {
    checked++;
    if (!Objects.equals(got, want)) {
      wrong++;
      System.out.println(part + ": " + what + " answered " + got + ", due is " + want);
    }
  }

  /** The answer of a call, or the simple name of the class of what it throws. */
  static Object answer(Callable<?> call) {
    try {
      return call.call();
    } catch (Exception e) {
      return e.getClass().getSimpleName();
    }
  }

  void due(String what, Callable<?> call, Object want) {
    due(what, answer(call), want);
  }

  static void type(AbbreviationDesk desk, String text) {
    for (char sign : text.toCharArray()) {
      desk.append(sign);
    }
  }

  static int add(AbbreviationDesk desk, int kind, String text, int priority, int context) {
    type(desk, text);
    return desk.addRule(kind, priority, context);
  }

  static int learn(AbbreviationDesk desk, String text) {
    type(desk, text);
    return desk.learn();
  }

  static String output(AbbreviationDesk desk) {
    StringBuilder all = new StringBuilder();
    int length = desk.result(1);
    for (int index = 0; index < length; index++) {
      all.append(desk.output(index));
    }
    return all.toString();
  }

  static String abbreviated(AbbreviationDesk desk, String text) {
    type(desk, text);
    desk.abbreviate();
    return output(desk);
  }

  static String expanded(AbbreviationDesk desk, String text) {
    type(desk, text);
    desk.expand();
    return output(desk);
  }

  /** All numbers about each word of the result. */
  static String words(AbbreviationDesk desk) {
    StringBuilder all = new StringBuilder();
    int words = desk.result(0);
    for (int word = 0; word < words; word++) {
      for (int what = 0; what <= 5; what++) {
        all.append(desk.word(word, what)).append(what < 5 ? "," : ";");
      }
    }
    return all.toString();
  }

  static String form(AbbreviationDesk desk, int rule, boolean isLong) {
    StringBuilder all = new StringBuilder();
    int length = desk.rule(rule, isLong ? 4 : 3);
    for (int index = 0; index < length; index++) {
      all.append(desk.letter(rule, isLong, index));
    }
    return all.toString();
  }

  /** All rules, pairs and settings, as the calls of the face tell them. */
  static String state(AbbreviationDesk desk) {
    StringBuilder all = new StringBuilder();
    int rules = desk.count(0);
    for (int rule = 0; rule < rules; rule++) {
      all.append(desk.rule(rule, 0)).append(' ').append(form(desk, rule, false)).append('=')
          .append(form(desk, rule, true)).append(' ').append(desk.rule(rule, 1)).append(' ')
          .append(desk.rule(rule, 2)).append("; ");
    }
    int pairs = desk.count(1);
    for (int pair = 0; pair < pairs; pair++) {
      for (int what = 0; what <= 3; what++) {
        all.append(desk.pair(pair, what)).append(what < 3 ? "," : "; ");
      }
    }
    return all.append('m').append(desk.count(2)).append(" t").append(desk.count(3)).toString();
  }

  void end() {
    System.out.println(checked + " checks, " + wrong + " wrong");
    if (wrong != 0) {
      System.exit(1);
    }
  }
}
