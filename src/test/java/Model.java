import java.util.ArrayDeque;
import java.util.ArrayList;
import java.util.Comparator;
import java.util.Deque;
import java.util.List;
import java.util.NoSuchElementException;
import java.util.function.Consumer;
import java.util.regex.Matcher;
import java.util.regex.Pattern;

/** The document once more, told with texts, lists and patterns, as a second opinion on the class. */
final class Model {
  record Rule(int kind, String brief, String full, int priority, int context) {
    String form(boolean isLong) {
      return isLong ? full : brief;
    }
  }

  record Pair(String brief, String full, int times) {
  }

  record Command(Consumer<State> deed) {
  }

  record Found(String word, Integer main, Integer end, int deed) {
  }

  record Done(int deed, int main, int end, String given, String word, int start) {
  }

  static final class State {
    List<Rule> rules = new ArrayList<>();
    List<Pair> pairs = new ArrayList<>();
    int mode = 1;
    int threshold = 2;
    List<Command> commands = new ArrayList<>();

    State copy() {
      State made = new State();
      made.rules = new ArrayList<>(rules);
      made.pairs = new ArrayList<>(pairs);
      made.mode = mode;
      made.threshold = threshold;
      made.commands = new ArrayList<>(commands);
      return made;
    }

    boolean looksLike(State other) {
      return rules.equals(other.rules) && pairs.equals(other.pairs) && mode == other.mode
          && threshold == other.threshold;
    }
  }

  private State now = new State();
  private State shot;
  private final Deque<State> undos = new ArrayDeque<>();
  private String buffer = "";
  private Integer error;
  private List<Done> done;
  private String output;
  private String input;
  private boolean wasShortened;
  private List<Integer> usedPriorities;
  private final float[][] rows = new float[2][];
  private final boolean[] exactRows = new boolean[2];

  int clear() {
    int number = now.rules.size();
    now = new State();
    undos.clear();
    return number;
  }

  int append(char sign) {
    need(sign >= 32 && sign <= 126, new IllegalArgumentException());
    need(buffer.length() < 100, new UnsupportedOperationException());
    buffer += sign;
    return buffer.length();
  }

  private static void need(boolean holds, RuntimeException otherwise) {
    if (!holds) {
      throw otherwise;
    }
  }

  private void needRule(int rule) {
    need(rule >= 0 && rule < now.rules.size(), new IndexOutOfBoundsException());
  }

  private static boolean in(int number, int low, int high) {
    return low <= number && number <= high;
  }

  /** The error position by its own words: the first sign after which no match can be reached any more. */
  private static int position(String text, Pattern pattern) {
    for (int end = 1; end <= text.length(); end++) {
      Matcher matcher = pattern.matcher(text.substring(0, end));
      if (!matcher.matches() && !matcher.hitEnd()) {
        return end - 1;
      }
    }
    return pattern.matcher(text).matches() ? -1 : text.length();
  }

  private static final Pattern RULE = Pattern.compile("[a-z]{1,6}=[a-z]{2,12}");
  private static final Pattern PLAIN = Pattern.compile("[a-z]{1,24}( [a-z]{1,24})*");
  private static final Pattern MARKS = Pattern.compile("'?[a-z]{1,24}( '?[a-z]{1,24})*");

  private static int rulePosition(String text) {
    int found = position(text, RULE);
    if (found < 0 && text.length() - text.indexOf('=') - 1 <= text.indexOf('=')) {
      return text.length();
    }
    return found;
  }

  private static int pairsPosition(String text) {
    int more = text.indexOf('=') < 0 ? 0 : text.substring(0, text.indexOf('=')).split(" ", -1).length - 1;
    return position(text, Pattern.compile(PLAIN.pattern() + "=[a-z]{1,24}( [a-z]{1,24}){" + more + "}"));
  }

  private void needRight(int found) {
    if (found >= 0) {
      error = found;
      throw new IllegalArgumentException();
    }
  }

  private void carryOut(Consumer<State> deed) {
    undos.addLast(now.copy());
    if (undos.size() > 8) {
      undos.removeFirst();
    }
    deed.accept(now);
    now.commands.add(new Command(deed));
  }

  int addRule(int kind, int priority, int context) {
    need(in(kind, 0, 2) && in(priority, 0, 99) && in(context, 0, 4), new IndexOutOfBoundsException());
    String text = buffer;
    buffer = "";
    needRight(rulePosition(text));
    need(now.rules.size() < 24, new IllegalStateException());
    String[] forms = text.split("=");
    carryOut(state -> state.rules.add(new Rule(kind, forms[0], forms[1], priority, context)));
    return now.rules.size() - 1;
  }

  int removeRule(int rule) {
    needRule(rule);
    carryOut(state -> state.rules.remove(rule));
    return now.rules.size();
  }

  int setPriority(int rule, int priority) {
    needRule(rule);
    need(in(priority, 0, 99), new IllegalArgumentException());
    Rule old = now.rules.get(rule);
    carryOut(state -> {
      Rule r = state.rules.get(rule);
      state.rules.set(rule, new Rule(r.kind, r.brief, r.full, priority, r.context));
    });
    return old.priority;
  }

  int setContext(int rule, int context) {
    needRule(rule);
    need(in(context, 0, 4), new IllegalArgumentException());
    Rule old = now.rules.get(rule);
    carryOut(state -> {
      Rule r = state.rules.get(rule);
      state.rules.set(rule, new Rule(r.kind, r.brief, r.full, r.priority, context));
    });
    return old.context;
  }

  int setMode(int mode) {
    need(in(mode, 0, 1), new IllegalArgumentException());
    int old = now.mode;
    carryOut(state -> state.mode = mode);
    return old;
  }

  int setThreshold(int threshold) {
    need(in(threshold, 1, 9), new IllegalArgumentException());
    int old = now.threshold;
    carryOut(state -> state.threshold = threshold);
    return old;
  }

  private List<Integer> bestFirst() {
    List<Integer> numbers = new ArrayList<>();
    for (int rule = 0; rule < now.rules.size(); rule++) {
      numbers.add(rule);
    }
    numbers.sort(Comparator.comparingInt((Integer n) -> -now.rules.get(n).priority)
        .thenComparingInt(n -> -now.rules.get(n).full.length()).thenComparingInt(n -> n));
    return numbers;
  }

  int rule(int rule, int what) {
    needRule(rule);
    need(in(what, 0, 5), new IllegalArgumentException());
    Rule r = now.rules.get(rule);
    return new int[] {r.kind, r.priority, r.context, r.brief.length(), r.full.length(),
        bestFirst().indexOf(rule)}[what];
  }

  char letter(int rule, boolean isLong, int index) {
    needRule(rule);
    String form = now.rules.get(rule).form(isLong);
    need(in(index, 0, form.length() - 1), new NoSuchElementException());
    return form.charAt(index);
  }

  String form(int rule, boolean isLong) {
    return now.rules.get(rule).form(isLong);
  }

  /** At which of the word 0, a word behind a vowel and one behind another letter a context fits. */
  private static boolean fits(int context, int place) {
    switch (context) {
      case 0:
        return true;
      case 1:
        return place == 0;
      case 2:
        return place != 0;
      default:
        return place == context - 2;
    }
  }

  private List<int[]> collisions() {
    List<int[]> all = new ArrayList<>();
    for (int low = 0; low < now.rules.size(); low++) {
      for (int high = low + 1; high < now.rules.size(); high++) {
        Rule a = now.rules.get(low);
        Rule b = now.rules.get(high);
        boolean meet = false;
        for (int place = 0; place < 3; place++) {
          meet = meet || fits(a.context, place) && fits(b.context, place);
        }
        if (meet && a.kind == b.kind && a.brief.equals(b.brief) && !a.full.equals(b.full)) {
          all.add(new int[] {low, high});
        }
      }
    }
    return all;
  }

  int count(int what) {
    need(in(what, 0, 7), new IllegalArgumentException());
    return new int[] {now.rules.size(), now.pairs.size(), now.mode, now.threshold, collisions().size(),
        buffer.length(), undos.size(), now.commands.size()}[what];
  }

  int collision(int index, boolean second) {
    List<int[]> all = collisions();
    need(in(index, 0, all.size() - 1), new NoSuchElementException());
    return all.get(index)[second ? 1 : 0];
  }

  int order(int better) {
    need(in(better, 0, now.rules.size() - 1), new NoSuchElementException());
    return bestFirst().get(better);
  }

  int shadow(int rule, boolean isLong) {
    needRule(rule);
    Rule shadowed = now.rules.get(rule);
    for (int other : bestFirst()) {
      if (other == rule) {
        return -1;
      }
      Rule o = now.rules.get(other);
      boolean covers = true;
      for (int place = 0; place < 3; place++) {
        covers = covers && (fits(o.context, place) || !fits(shadowed.context, place));
      }
      if (covers && o.kind == shadowed.kind && o.form(isLong).equals(shadowed.form(isLong))) {
        return other;
      }
    }
    return -1;
  }

  int letterCount(char letter, boolean isLong) {
    need(in(letter, 'a', 'z'), new IllegalArgumentException());
    return (int) now.rules.stream().flatMapToInt(r -> r.form(isLong).chars()).filter(l -> l == letter).count();
  }

  int saving(int kind) {
    need(in(kind, -1, 2), new IllegalArgumentException());
    return now.rules.stream().filter(r -> kind < 0 || r.kind == kind)
        .mapToInt(r -> (r.full.length() - r.brief.length()) * (r.kind == 0 ? 1 : 2)).sum();
  }

  private static int ruleOf(State state, String brief, String full) {
    for (int rule = 0; rule < state.rules.size(); rule++) {
      Rule r = state.rules.get(rule);
      if (r.kind == 0 && r.brief.equals(brief) && r.full.equals(full)) {
        return rule;
      }
    }
    return -1;
  }

  private static void learnPair(State state, String brief, String full) {
    if (!RULE.matcher(brief + "=" + full).matches() || full.length() <= brief.length()) {
      return;
    }
    int known = -1;
    for (int pair = 0; pair < state.pairs.size(); pair++) {
      Pair p = state.pairs.get(pair);
      known = p.brief.equals(brief) && p.full.equals(full) ? pair : known;
    }
    if (known < 0) {
      if (state.pairs.size() == 30) {
        return;
      }
      known = state.pairs.size();
      state.pairs.add(new Pair(brief, full, 0));
    }
    int times = state.pairs.get(known).times + 1;
    state.pairs.set(known, new Pair(brief, full, times));
    if (times == state.threshold && ruleOf(state, brief, full) < 0 && state.rules.size() < 24) {
      state.rules.add(new Rule(0, brief, full, 10 * state.threshold, 0));
    }
  }

  int learn() {
    String text = buffer;
    buffer = "";
    needRight(pairsPosition(text));
    int before = now.rules.size();
    String[] briefs = text.split("=")[0].split(" ");
    String[] fulls = text.split("=")[1].split(" ");
    carryOut(state -> {
      for (int word = 0; word < briefs.length; word++) {
        learnPair(state, briefs[word], fulls[word]);
      }
    });
    return now.rules.size() - before;
  }

  int pair(int pair, int what) {
    need(in(pair, 0, now.pairs.size() - 1), new IndexOutOfBoundsException());
    need(in(what, 0, 3), new IllegalArgumentException());
    Pair p = now.pairs.get(pair);
    return new int[] {p.times, p.brief.length(), p.full.length(), ruleOf(now, p.brief, p.full)}[what];
  }

  private static int placeBehind(String before) {
    return before == null ? 0 : "aeiou".indexOf(before.charAt(before.length() - 1)) >= 0 ? 1 : 2;
  }

  /** The short form (from long ones) or the long form (from short ones) of a word behind another. */
  private Found find(String word, String before, boolean fromLong) {
    Integer[] best = new Integer[3];
    for (int number : bestFirst()) {
      Rule r = now.rules.get(number);
      String form = r.form(fromLong);
      boolean proper = form.length() < word.length();
      boolean stands = r.kind == 0 ? word.equals(form)
          : proper && (r.kind == 1 ? word.startsWith(form) : word.endsWith(form));
      if (stands && best[r.kind] == null && fits(r.context, placeBehind(before))) {
        best[r.kind] = number;
      }
    }
    if (best[0] != null) {
      return new Found(now.rules.get(best[0]).form(!fromLong), best[0], null, 1);
    }
    if (best[1] != null && best[2] != null
        && now.rules.get(best[1]).form(fromLong).length() + now.rules.get(best[2]).form(fromLong).length()
            > word.length()) {
      best[bestFirst().indexOf(best[1]) < bestFirst().indexOf(best[2]) ? 2 : 1] = null;
    }
    String left = word;
    String head = "";
    String tail = "";
    if (best[1] != null) {
      head = now.rules.get(best[1]).form(!fromLong);
      left = left.substring(now.rules.get(best[1]).form(fromLong).length());
    }
    if (best[2] != null) {
      tail = now.rules.get(best[2]).form(!fromLong);
      left = left.substring(0, left.length() - now.rules.get(best[2]).form(fromLong).length());
    }
    int deed = best[1] == null ? (best[2] == null ? 0 : 3) : best[2] == null ? 2 : 4;
    return new Found(head + left + tail, best[1], best[2], deed);
  }

  private Found shorten(String word, String before) {
    Found found = find(word, before, true);
    if (now.mode == 0 || find(found.word, before, false).word.equals(word)) {
      return found;
    }
    if (find(word, before, false).word.equals(word)) {
      return new Found(word, null, null, found.main == null && found.end == null ? 0 : 6);
    }
    return new Found("'" + word, null, null, 5);
  }

  private Found lengthen(String word, String before) {
    return word.startsWith("'") ? new Found(word.substring(1), null, null, 5) : find(word, before, false);
  }

  private int convert(boolean shorten) {
    String text = buffer;
    buffer = "";
    needRight(position(text, shorten ? PLAIN : MARKS));
    done = new ArrayList<>();
    usedPriorities = new ArrayList<>();
    input = text;
    wasShortened = shorten;
    StringBuilder all = new StringBuilder();
    String before = null;
    for (String word : text.split(" ")) {
      Found found = shorten ? shorten(word, before) : lengthen(word, before);
      before = shorten ? word : found.word;
      all.append(all.length() > 0 ? " " : "");
      done.add(new Done(found.deed, found.main == null ? -1 : found.main, found.end == null ? -1 : found.end,
          word.replace("'", ""), found.word.replace("'", ""), all.length()));
      all.append(found.word);
      for (Integer used : new Integer[] {found.main, found.end}) {
        if (used != null) {
          usedPriorities.add(now.rules.get(used).priority);
        }
      }
    }
    output = all.toString();
    return output.length();
  }

  int abbreviate() {
    return convert(true);
  }

  int expand() {
    return convert(false);
  }

  int errorPosition() {
    need(error != null, new NoSuchElementException());
    return error;
  }

  private void needResult() {
    need(output != null, new IllegalStateException());
  }

  char output(int index) {
    needResult();
    need(in(index, 0, output.length() - 1), new IndexOutOfBoundsException());
    return output.charAt(index);
  }

  int takeBack() {
    needResult();
    need(output.length() <= 100, new UnsupportedOperationException());
    buffer = output;
    return buffer.length();
  }

  int word(int word, int what) {
    needResult();
    need(in(word, 0, done.size() - 1), new IndexOutOfBoundsException());
    need(in(what, 0, 5), new IllegalArgumentException());
    Done d = done.get(word);
    return new int[] {d.deed, d.main, d.end, d.given.length(), d.word.length(), d.start}[what];
  }

  int result(int what) {
    needResult();
    need(in(what, 0, 5), new IllegalArgumentException());
    int marked = (int) output.chars().filter(sign -> sign == '\'').count();
    return new int[] {done.size(), output.length(), input.length(), usedPriorities.size(), marked,
        wasShortened ? 1 : 0}[what];
  }

  /** By the whole text: abbreviates all of it, expands all that comes of it, and compares. */
  int firstLost() {
    needRight(position(buffer, PLAIN));
    String[] words = buffer.split(" ");
    List<String> shorts = new ArrayList<>();
    for (int word = 0; word < words.length; word++) {
      shorts.add(shorten(words[word], word == 0 ? null : words[word - 1]).word);
    }
    List<String> back = new ArrayList<>();
    for (int word = 0; word < words.length; word++) {
      back.add(lengthen(shorts.get(word), word == 0 ? null : back.get(word - 1)).word);
    }
    for (int word = 0; word < words.length; word++) {
      if (!words[word].equals(back.get(word))) {
        return word;
      }
    }
    return -1;
  }

  double share() {
    needResult();
    return (double) output.length() / (double) input.length();
  }

  float meanPriority() {
    needResult();
    need(!usedPriorities.isEmpty(), new ArithmeticException());
    return (float) usedPriorities.stream().mapToInt(p -> p).sum() / (float) usedPriorities.size();
  }

  int storeLengths(int row, boolean exact) {
    need(in(row, 0, 1), new IndexOutOfBoundsException());
    needResult();
    rows[row] = new float[done.size()];
    exactRows[row] = exact;
    for (int word = 0; word < done.size(); word++) {
      Done d = done.get(word);
      rows[row][word] = exact ? d.word.length() : (float) d.word.length() / (float) d.given.length();
    }
    return done.size();
  }

  boolean copyLengths(int from, int count) {
    need(in(from, 0, 1), new IndexOutOfBoundsException());
    need(rows[0] != null && rows[1] != null, new NoSuchElementException());
    need(exactRows[0] == exactRows[1], new UnsupportedOperationException());
    need(in(count, 0, Math.min(rows[0].length, rows[1].length)), new IllegalArgumentException());
    float[] before = rows[1 - from].clone();
    System.arraycopy(rows[from], 0, rows[1 - from], 0, count);
    return !java.util.Arrays.equals(before, rows[1 - from]);
  }

  int storedBits(int row, int index) {
    need(in(row, 0, 1), new IndexOutOfBoundsException());
    need(rows[row] != null && in(index, 0, rows[row].length - 1), new NoSuchElementException());
    return Float.floatToIntBits(rows[row][index]);
  }

  int undo() {
    need(!undos.isEmpty(), new IllegalStateException());
    now = undos.removeLast();
    return undos.size();
  }

  boolean isReplayed() {
    State again = new State();
    now.commands.forEach(command -> command.deed.accept(again));
    return again.looksLike(now);
  }

  int snapshot() {
    shot = now.copy();
    return now.rules.size();
  }

  int restore() {
    need(shot != null, new IllegalStateException());
    now = shot.copy();
    undos.clear();
    return now.rules.size();
  }
}
