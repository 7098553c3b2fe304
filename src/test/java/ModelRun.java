import java.util.Objects;
import java.util.Random;
import java.util.Set;
import java.util.concurrent.Callable;

/** A run of calls, the same at each start, on the class and on the model of it, compared call by call. */
abstract class ModelRun {
  private static final int CALLS = 512;

  final Random random;
  final AbbreviationDesk desk = new AbbreviationDesk();
  final Model model = new Model();
  final String letters;
  private final int run;
  private final Set<String> met;
  private final StringBuilder calls = new StringBuilder();
  private int made;
  private boolean isWrong;

  /** What the run meets, exceptions and what else a test asks for, goes into met. */
  ModelRun(int run, String letters, Set<String> met) {
    this.run = run;
    this.letters = letters;
    this.met = met;
    random = new Random(run);
  }

  abstract void step();

  final void play() {
    while (!isOver()) {
      step();
    }
  }

  final boolean isOver() {
    return isWrong || made >= CALLS;
  }

  final boolean isWrong() {
    return isWrong;
  }

  final int made() {
    return made;
  }

  final void meet(String what) {
    met.add(what);
  }

  /** Makes a call on both, if the run is not over, and returns what is due. */
  final Object same(String call, Callable<?> ofDesk, Callable<?> ofModel) {
    if (isOver()) {
      return null;
    }
    made++;
    Object got = Checks.answer(ofDesk);
    Object want = Checks.answer(ofModel);
    calls.append(call).append(" -> ").append(got).append('\n');
    if (!Objects.equals(got, want)) {
      isWrong = true;
      System.out.println("run " + run + ":\n" + calls + "due is " + want);
    }
    if (want instanceof String exception) {
      meet(call.split(" ")[0] + " " + exception);
    }
    return want;
  }

  final int upTo(int most) {
    return random.nextInt(most + 1);
  }

  /** Mostly a number from low to high, sometimes one beside them. */
  final int number(int low, int high) {
    if (random.nextInt(12) == 0) {
      return new int[] {low - 1, high + 1, Integer.MIN_VALUE, Integer.MAX_VALUE}[upTo(3)];
    }
    return low + random.nextInt(Math.max(1, high - low + 1));
  }

  /** A word of 1 to so many letters. */
  final String word(int most) {
    return letters(1 + random.nextInt(most));
  }

  final String letters(int number) {
    StringBuilder word = new StringBuilder();
    while (word.length() < number) {
      word.append(letters.charAt(random.nextInt(letters.length())));
    }
    return word.toString();
  }

  final void type(String text) {
    for (char sign : text.toCharArray()) {
      same("append " + sign, () -> desk.append(sign), () -> model.append(sign));
    }
  }

  final void addRule(String text, int kind, int priority, int context) {
    type(text);
    same("addRule " + kind + " " + priority + " " + context, () -> desk.addRule(kind, priority, context),
        () -> model.addRule(kind, priority, context));
  }

  final Object learn(String text) {
    type(text);
    return same("learn", desk::learn, model::learn);
  }

  final void setPriority(int rule, int priority) {
    same("setPriority " + rule + " " + priority, () -> desk.setPriority(rule, priority),
        () -> model.setPriority(rule, priority));
  }

  final void setContext(int rule, int context) {
    same("setContext " + rule + " " + context, () -> desk.setContext(rule, context),
        () -> model.setContext(rule, context));
  }

  final void setMode(int mode) {
    same("setMode " + mode, () -> desk.setMode(mode), () -> model.setMode(mode));
  }

  final void setThreshold(int threshold) {
    same("setThreshold " + threshold, () -> desk.setThreshold(threshold), () -> model.setThreshold(threshold));
  }

  final void removeRule(int rule) {
    same("removeRule " + rule, () -> desk.removeRule(rule), () -> model.removeRule(rule));
  }

  final void rule(int rule, int what) {
    same("rule " + rule + " " + what, () -> desk.rule(rule, what), () -> model.rule(rule, what));
  }

  final void letter(int rule, boolean isLong, int index) {
    same("letter " + rule + " " + isLong + " " + index, () -> desk.letter(rule, isLong, index),
        () -> model.letter(rule, isLong, index));
  }

  final Object count(int what) {
    return same("count " + what, () -> desk.count(what), () -> model.count(what));
  }

  final void collision(int index, boolean second) {
    same("collision " + index + " " + second, () -> desk.collision(index, second),
        () -> model.collision(index, second));
  }

  final void order(int better) {
    same("order " + better, () -> desk.order(better), () -> model.order(better));
  }

  final Object shadow(int rule, boolean isLong) {
    return same("shadow " + rule + " " + isLong, () -> desk.shadow(rule, isLong), () -> model.shadow(rule, isLong));
  }

  final void letterCount(char letter, boolean isLong) {
    same("letterCount " + letter, () -> desk.letterCount(letter, isLong), () -> model.letterCount(letter, isLong));
  }

  final void saving(int kind) {
    same("saving " + kind, () -> desk.saving(kind), () -> model.saving(kind));
  }

  final void pair(int pair, int what) {
    same("pair " + pair + " " + what, () -> desk.pair(pair, what), () -> model.pair(pair, what));
  }

  final Object firstLost() {
    return same("firstLost", desk::firstLost, model::firstLost);
  }

  final void abbreviate() {
    same("abbreviate", desk::abbreviate, model::abbreviate);
  }

  final void expand() {
    same("expand", desk::expand, model::expand);
  }

  final void takeBack() {
    same("takeBack", desk::takeBack, model::takeBack);
  }

  final void output(int index) {
    same("output " + index, () -> desk.output(index), () -> model.output(index));
  }

  final Object aboutWord(int word, int what) {
    return same("word " + word + " " + what, () -> desk.word(word, what), () -> model.word(word, what));
  }

  final void result(int what) {
    same("result " + what, () -> desk.result(what), () -> model.result(what));
  }

  /** How many words the result has; 1 without a result. */
  final int wordsOfResult() {
    return Checks.answer(() -> model.result(0)) instanceof Integer number ? number : 1;
  }

  final void shares() {
    same("share", desk::share, model::share);
    same("meanPriority", desk::meanPriority, model::meanPriority);
  }

  final void storeLengths(int row, boolean exact) {
    same("storeLengths " + row + " " + exact, () -> desk.storeLengths(row, exact),
        () -> model.storeLengths(row, exact));
  }

  final void copyLengths(int from, int count) {
    same("copyLengths " + from + " " + count, () -> desk.copyLengths(from, count),
        () -> model.copyLengths(from, count));
  }

  final void storedBits(int row, int index) {
    same("storedBits " + row + " " + index, () -> desk.storedBits(row, index), () -> model.storedBits(row, index));
  }

  final void errorPosition() {
    same("errorPosition", desk::errorPosition, model::errorPosition);
  }

  final void undo() {
    same("undo", desk::undo, model::undo);
  }

  final void isReplayed() {
    same("isReplayed", desk::isReplayed, model::isReplayed);
  }

  final void snapshot() {
    same("snapshot", desk::snapshot, model::snapshot);
  }

  final void restore() {
    same("restore", desk::restore, model::restore);
  }

  final void clear() {
    same("clear", desk::clear, model::clear);
  }
}
