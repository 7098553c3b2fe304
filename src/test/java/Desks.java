import java.util.Collections;

/** Desks as several tests need them; each is far from its 512th call. */
final class Desks {
  /** A text of as many letters, which ends with another letter than a vowel. */
  static String letters(int number) {
    return "bcdefghijklmnopqrstuvwxyzbcdef".substring(0, number);
  }

  /** A text of 100 characters, in five words. */
  static String longestText() {
    String word = letters(24);
    return word + " " + word + " " + word + " " + letters(12) + " " + letters(12);
  }

  static String times(int number, String text, String between) {
    return String.join(between, Collections.nCopies(number, text));
  }

  /** A desk in which nothing is as it is in a new one. */
  static AbbreviationDesk busy() {
    return busyWith("the 'x");
  }

  /** A busy desk with other characters in its buffer. */
  static AbbreviationDesk busyWith(String text) {
    AbbreviationDesk desk = new AbbreviationDesk();
    Checks.add(desk, 0, "t=the", 5, 0);
    Checks.add(desk, 2, "g=ing", 31, 0);
    desk.snapshot();
    Checks.add(desk, 0, "t=that", 7, 2);
    desk.setMode(0);
    desk.setThreshold(3);
    Checks.learn(desk, "a t=abc the");
    Checks.abbreviated(desk, "the ding x");
    desk.storeLengths(0, true);
    desk.storeLengths(1, false);
    Checks.type(desk, "ab=");
    Checks.answer(() -> desk.addRule(0, 0, 0));
    Checks.type(desk, text);
    return desk;
  }

  /** Rules of all kinds and contexts, with long forms of 3 and 4 letters; the number of each is its priority, too. */
  static AbbreviationDesk withRules(int rules) {
    AbbreviationDesk desk = new AbbreviationDesk();
    for (int rule = 0; rule < rules; rule++) {
      Checks.add(desk, rule % 3, (char) ('a' + rule) + "=" + "thex".substring(0, 3 + rule % 2), rule, rule % 5);
    }
    return desk;
  }

  /** At most 30 pairs, each with the count 1 and the short form a to o. */
  static AbbreviationDesk withPairs(int pairs) {
    AbbreviationDesk desk = new AbbreviationDesk();
    for (int from = 0; from < pairs; from += 15) {
      StringBuilder left = new StringBuilder();
      StringBuilder right = new StringBuilder();
      for (int pair = from; pair < Math.min(pairs, from + 15); pair++) {
        char letter = (char) ('a' + pair % 15);
        left.append(left.length() > 0 ? " " : "").append(letter);
        right.append(right.length() > 0 ? " " : "").append(pair < 15 ? "yy" : "zz").append(letter);
      }
      Checks.learn(desk, left + "=" + right);
    }
    return desk;
  }

  /** A beginning abc and an end cde in the mode 0, which overlap in the word abcde. */
  static AbbreviationDesk withEnds(int firstPriority, int secondPriority) {
    AbbreviationDesk desk = new AbbreviationDesk();
    desk.setMode(0);
    Checks.add(desk, 1, "u=abc", firstPriority, 0);
    Checks.add(desk, 2, "v=cde", secondPriority, 0);
    return desk;
  }

  static AbbreviationDesk withBuffer(String text) {
    AbbreviationDesk desk = new AbbreviationDesk();
    Checks.type(desk, text);
    return desk;
  }

  private Desks() {
  }
}
