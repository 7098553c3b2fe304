import java.util.NoSuchElementException;

/** An expander of abbreviations; the document ../shared/DOC.md says what each call answers. */
public final class AbbreviationDesk {
  private static final int BUFFER_ROOM = 100;
  private static final int MOST_CALLS = 512;
  private static final int MOST_RULES = 24;
  private static final int MOST_PAIRS = 30;
  private static final int MOST_UNDOS = 8;
  private static final int MOST_SHORT = 6;
  private static final int MOST_LONG = 12;
  private static final int MOST_LETTERS = 24;

  // A text of 100 signs has at most 50 words; a word grows by at most 11 letters at each of its ends.
  private static final int MOST_WORDS = 50;
  private static final int WORD_ROOM = 46;
  private static final int OUTPUT_ROOM = 1200;

  private static final int WORDS = 0;
  private static final int BEGINNINGS = 1;
  private static final int ENDS = 2;

  private static final int FIRST_WORD = 0;
  private static final int BEHIND_VOWEL = 1;
  private static final int BEHIND_OTHER = 2;
  private static final int ALL_PLACES = 7;

  // For each context one bit for each place at which it fits.
  private static final int[] PLACES = {7, 1, 6, 2, 4};

  private static final int STAYED = 0;
  private static final int USED_WORD = 1;
  private static final int USED_BEGINNING = 2;
  private static final int USED_END = 3;
  private static final int USED_BOTH = 4;
  private static final int MARKED = 5;
  private static final int STAYED_WITH_RULES = 6;

  private static final int ADD = 0;
  private static final int REMOVE = 1;
  private static final int PRIORITY = 2;
  private static final int CONTEXT = 3;
  private static final int MODE = 4;
  private static final int THRESHOLD = 5;
  private static final int LEARN = 6;

  private final Text buffer = new Text(BUFFER_ROOM);
  private final Text given = new Text(WORD_ROOM);
  private final TextCheck check = new TextCheck();
  private final Turn turn = new Turn();
  private final Turn backTurn = new Turn();
  private final Book book = new Book();
  private final Book saved = new Book();
  private final Book replayed = new Book();
  private final Command[] replayOrder = new Command[MOST_CALLS];
  private final History history = new History();
  private final Result last = new Result();
  private final Row rowZero = new Row();
  private final Row rowOne = new Row();
  private int lastError = -1;
  private boolean hasSnapshot;

  public AbbreviationDesk() {
  }

  public int clear() {
    int before = book.rules;
    book.startAgain();
    history.forget();
    return before;
  }

  public int append(char character) throws IllegalArgumentException, UnsupportedOperationException {
    if (character < 32 || character > 126) {
      throw new IllegalArgumentException();
    }
    if (buffer.size() >= BUFFER_ROOM) {
      throw new UnsupportedOperationException();
    }
    buffer.add(character);
    return buffer.size();
  }

  // ---- rules

  public int addRule(int kind, int priority, int context)
      throws IndexOutOfBoundsException, IllegalArgumentException, IllegalStateException {
    if (!isKind(kind) || !isPriority(priority) || !isContext(context)) {
      throw new IndexOutOfBoundsException();
    }
    Text text = buffer.copy();
    buffer.empty();
    requireRight(TextCheck.errorInRule(text));
    if (book.rules >= MOST_RULES) {
      throw new IllegalStateException();
    }
    carryOut(new Command(book.lastCommand, ADD, kind, priority, context, text));
    return book.rules - 1;
  }

  public int removeRule(int rule) throws IndexOutOfBoundsException {
    requireRule(rule);
    carryOut(new Command(book.lastCommand, REMOVE, rule, 0, 0, null));
    return book.rules;
  }

  public int setPriority(int rule, int priority) throws IndexOutOfBoundsException, IllegalArgumentException {
    requireRule(rule);
    requireArgument(isPriority(priority));
    int before = book.priorities[rule];
    carryOut(new Command(book.lastCommand, PRIORITY, rule, priority, 0, null));
    return before;
  }

  public int setContext(int rule, int context) throws IndexOutOfBoundsException, IllegalArgumentException {
    requireRule(rule);
    requireArgument(isContext(context));
    int before = book.contexts[rule];
    carryOut(new Command(book.lastCommand, CONTEXT, rule, context, 0, null));
    return before;
  }

  public int setMode(int mode) throws IllegalArgumentException {
    requireArgument(mode == 0 || mode == 1);
    int before = book.mode;
    carryOut(new Command(book.lastCommand, MODE, mode, 0, 0, null));
    return before;
  }

  public int setThreshold(int threshold) throws IllegalArgumentException {
    requireArgument(threshold >= 1 && threshold <= 9);
    int before = book.threshold;
    carryOut(new Command(book.lastCommand, THRESHOLD, threshold, 0, 0, null));
    return before;
  }

  public int rule(int rule, int what) throws IndexOutOfBoundsException, IllegalArgumentException {
    requireRule(rule);
    switch (what) {
      case 0:
        return book.kinds[rule];
      case 1:
        return book.priorities[rule];
      case 2:
        return book.contexts[rule];
      case 3:
        return Form.lengthOf(book.shortForms[rule]);
      case 4:
        return Form.lengthOf(book.longForms[rule]);
      case 5:
        return book.betterRules(rule);
      default:
        throw new IllegalArgumentException();
    }
  }

  public char letter(int rule, boolean isLong, int index) throws IndexOutOfBoundsException, NoSuchElementException {
    requireRule(rule);
    long form = book.formOf(rule, isLong);
    if (index < 0 || index >= Form.lengthOf(form)) {
      throw new NoSuchElementException();
    }
    return Form.letterAt(form, index);
  }

  public int count(int what) throws IllegalArgumentException {
    switch (what) {
      case 0:
        return book.rules;
      case 1:
        return book.pairs;
      case 2:
        return book.mode;
      case 3:
        return book.threshold;
      case 4:
        return book.collisions();
      case 5:
        return buffer.size();
      case 6:
        return history.size;
      case 7:
        return book.commands;
      default:
        throw new IllegalArgumentException();
    }
  }

  public int collision(int index, boolean second) throws NoSuchElementException {
    int rule = book.collidingRule(index, second);
    if (rule < 0) {
      throw new NoSuchElementException();
    }
    return rule;
  }

  public int order(int better) throws NoSuchElementException {
    for (int rule = 0; rule < book.rules; rule++) {
      if (book.betterRules(rule) == better) {
        return rule;
      }
    }
    throw new NoSuchElementException();
  }

  public int shadow(int rule, boolean isLong) throws IndexOutOfBoundsException {
    requireRule(rule);
    int best = -1;
    for (int other = 0; other < book.rules; other++) {
      if (book.isShadowedBy(rule, other, isLong) && (best < 0 || book.isBetter(other, best))) {
        best = other;
      }
    }
    return best;
  }

  public int letterCount(char letter, boolean isLong) throws IllegalArgumentException {
    requireArgument(isLetter(letter));
    int times = 0;
    for (int rule = 0; rule < book.rules; rule++) {
      times += Form.timesOf(book.formOf(rule, isLong), letter);
    }
    return times;
  }

  public int saving(int kind) throws IllegalArgumentException {
    requireArgument(kind == -1 || isKind(kind));
    int sum = 0;
    for (int rule = 0; rule < book.rules; rule++) {
      if (kind == -1 || book.kinds[rule] == kind) {
        sum += book.savingOf(rule);
      }
    }
    return sum;
  }

  // ---- learning

  public int learn() throws IllegalArgumentException {
    Text text = buffer.copy();
    buffer.empty();
    requireRight(check.errorInPairs(text));
    int before = book.rules;
    carryOut(new Command(book.lastCommand, LEARN, 0, 0, 0, text));
    return book.rules - before;
  }

  public int pair(int pair, int what) throws IndexOutOfBoundsException, IllegalArgumentException {
    if (pair < 0 || pair >= book.pairs) {
      throw new IndexOutOfBoundsException();
    }
    switch (what) {
      case 0:
        return book.pairCounts[pair];
      case 1:
        return Form.lengthOf(book.pairShorts[pair]);
      case 2:
        return Form.lengthOf(book.pairLongs[pair]);
      case 3:
        return book.wordRule(book.pairShorts[pair], book.pairLongs[pair]);
      default:
        throw new IllegalArgumentException();
    }
  }

  // ---- texts

  public int abbreviate() throws IllegalArgumentException {
    return convert(check.errorInText(buffer, false), true);
  }

  public int expand() throws IllegalArgumentException {
    return convert(check.errorInText(buffer, true), false);
  }

  public int errorPosition() throws NoSuchElementException {
    if (lastError < 0) {
      throw new NoSuchElementException();
    }
    return lastError;
  }

  public char output(int index) throws IllegalStateException, IndexOutOfBoundsException {
    requireResult();
    if (index < 0 || index >= last.output.size()) {
      throw new IndexOutOfBoundsException();
    }
    return last.output.at(index);
  }

  public int takeBack() throws IllegalStateException, UnsupportedOperationException {
    requireResult();
    if (last.output.size() > BUFFER_ROOM) {
      throw new UnsupportedOperationException();
    }
    buffer.empty();
    buffer.addPart(last.output, 0, last.output.size());
    return buffer.size();
  }

  public int word(int word, int what)
      throws IllegalStateException, IndexOutOfBoundsException, IllegalArgumentException {
    requireResult();
    if (word < 0 || word >= last.words) {
      throw new IndexOutOfBoundsException();
    }
    switch (what) {
      case 0:
        return last.deeds[word];
      case 1:
        return last.mainRules[word];
      case 2:
        return last.endRules[word];
      case 3:
        return last.givenLengths[word];
      case 4:
        return last.lengths[word];
      case 5:
        return last.starts[word];
      default:
        throw new IllegalArgumentException();
    }
  }

  public int result(int what) throws IllegalStateException, IllegalArgumentException {
    requireResult();
    switch (what) {
      case 0:
        return last.words;
      case 1:
        return last.output.size();
      case 2:
        return last.givenSize;
      case 3:
        return last.uses;
      case 4:
        return last.markedWords;
      case 5:
        return last.isAbbreviated ? 1 : 0;
      default:
        throw new IllegalArgumentException();
    }
  }

  public int firstLost() throws IllegalArgumentException {
    requireRight(check.errorInText(buffer, false));
    int place = FIRST_WORD;
    int start = 0;
    for (int number = 0; number < MOST_WORDS && start < buffer.size(); number++) {
      int end = buffer.lettersEnd(start);
      given.empty();
      given.addPart(buffer, start, end);
      // The words before were restored, so that this one is expanded at the place of its abbreviating.
      if (!isRestored(place)) {
        return number;
      }
      place = placeBehind(given);
      start = end + 1;
    }
    return -1;
  }

  // ---- shares and rows

  public double share() throws IllegalStateException {
    requireResult();
    double after = (double) last.output.size();
    double before = (double) last.givenSize;
    return before > 0 ? after / before : 0;
  }

  public float meanPriority() throws IllegalStateException, ArithmeticException {
    requireResult();
    if (last.uses <= 0) {
      throw new ArithmeticException();
    }
    return (float) last.prioritySum / (float) last.uses;
  }

  public int storeLengths(int row, boolean exact) throws IndexOutOfBoundsException, IllegalStateException {
    requireRow(row);
    requireResult();
    rowOf(row).store(last, exact);
    return last.words;
  }

  public boolean copyLengths(int from, int count)
      throws IndexOutOfBoundsException, NoSuchElementException, UnsupportedOperationException,
          IllegalArgumentException {
    requireRow(from);
    Row source = rowOf(from);
    Row target = rowOf(1 - from);
    if (!source.isStored || !target.isStored) {
      throw new NoSuchElementException();
    }
    if (source.isExact != target.isExact) {
      throw new UnsupportedOperationException();
    }
    requireArgument(count >= 0 && count <= source.size && count <= target.size);
    return target.takeFrom(source, count);
  }

  public int storedBits(int row, int index) throws IndexOutOfBoundsException, NoSuchElementException {
    requireRow(row);
    Row stored = rowOf(row);
    if (!stored.isStored || index < 0 || index >= stored.size) {
      throw new NoSuchElementException();
    }
    return bitsOf(stored.elementAt(index));
  }

  // ---- undo, replay, snapshot

  public int undo() throws IllegalStateException {
    if (history.size <= 0) {
      throw new IllegalStateException();
    }
    history.putBack(book);
    return history.size;
  }

  public boolean isReplayed() {
    int commands = orderCommands();
    replayed.startAgain();
    for (int number = 0; number < commands; number++) {
      Command command = replayOrder[number];
      if (command != null) {
        command.applyTo(replayed);
      }
    }
    return replayed.sameAs(book);
  }

  public int snapshot() {
    saved.copyFrom(book);
    hasSnapshot = true;
    return book.rules;
  }

  public int restore() throws IllegalStateException {
    if (!hasSnapshot) {
      throw new IllegalStateException();
    }
    book.copyFrom(saved);
    history.forget();
    return book.rules;
  }

  // ---- what several calls need

  private void requireRule(int rule) {
    if (rule < 0 || rule >= book.rules) {
      throw new IndexOutOfBoundsException();
    }
  }

  private static void requireArgument(boolean isRight) {
    if (!isRight) {
      throw new IllegalArgumentException();
    }
  }

  private void requireRight(int error) {
    if (error >= 0) {
      lastError = error;
      throw new IllegalArgumentException();
    }
  }

  private void requireResult() {
    if (!last.isThere) {
      throw new IllegalStateException();
    }
  }

  private static void requireRow(int row) {
    if (row != 0 && row != 1) {
      throw new IndexOutOfBoundsException();
    }
  }

  private Row rowOf(int row) {
    return row == 0 ? rowZero : rowOne;
  }

  private void carryOut(Command command) {
    history.keep(book);
    command.applyTo(book);
    book.note(command);
  }

  /** Puts the commands of the book into their order, which their chain has backwards; returns their number. */
  private int orderCommands() {
    int commands = Math.min(book.commands, replayOrder.length);
    Command command = book.lastCommand;
    for (int number = commands - 1; number >= 0 && command != null; number--) {
      replayOrder[number] = command;
      command = command.previous;
    }
    return commands;
  }

  private int convert(int error, boolean shorten) {
    if (error >= 0) {
      buffer.empty();
    }
    requireRight(error);
    last.begin(buffer.size(), shorten);
    int place = FIRST_WORD;
    int start = 0;
    for (int number = 0; number < MOST_WORDS && start < buffer.size(); number++) {
      boolean isMarked = buffer.at(start) == '\'';
      int from = isMarked ? start + 1 : start;
      int end = buffer.lettersEnd(from);
      given.empty();
      given.addPart(buffer, from, end);
      if (shorten) {
        turn.shortenWord(book, given, place);
      } else if (isMarked) {
        turn.unmarkWord(given);
      } else {
        turn.lengthenWord(book, given, place);
      }
      last.record(turn, given.size(), book);
      place = placeBehind(shorten ? given : turn.outcome);
      start = end + 1;
    }
    buffer.empty();
    return last.output.size();
  }

  private boolean isRestored(int place) {
    turn.shortenWord(book, given, place);
    if (turn.isMarked) {
      return true;
    }
    backTurn.lengthenWord(book, turn.outcome, place);
    return backTurn.outcome.sameAs(given);
  }

  private static boolean isKind(int kind) {
    return kind >= WORDS && kind <= ENDS;
  }

  private static boolean isPriority(int priority) {
    return priority >= 0 && priority <= 99;
  }

  private static boolean isContext(int context) {
    return context >= 0 && context < PLACES.length;
  }

  private static boolean isLetter(char sign) {
    return sign >= 'a' && sign <= 'z';
  }

  private static boolean isVowel(char sign) {
    return sign == 'a' || sign == 'e' || sign == 'i' || sign == 'o' || sign == 'u';
  }

  private static boolean areForms(int shortLetters, int longLetters) {
    return shortLetters >= 1 && shortLetters <= MOST_SHORT
        && longLetters <= MOST_LONG && longLetters > shortLetters;
  }

  private static int placeBehind(Text word) {
    return isVowel(word.at(word.size() - 1)) ? BEHIND_VOWEL : BEHIND_OTHER;
  }

  /** The bits of a positive float, worked out by arithmetic, since the language has no call for them. */
  private static int bitsOf(float value) {
    if (value <= 0f) {
      return 0;
    }
    float scaled = value;
    int exponent = 127;
    for (int step = 0; step < 128 && scaled >= 2f; step++) {
      scaled = scaled / 2f;
      exponent++;
    }
    for (int step = 0; step < 126 && scaled < 1f; step++) {
      scaled = scaled * 2f;
      exponent--;
    }
    return (exponent << 23) | (int) ((scaled - 1f) * 8388608f);
  }

  /** Characters in a room whose size does not change. */
  private static final class Text {
    private final char[] signs;
    private int size;

    Text(int room) {
      signs = new char[room > 0 ? room : 0];
    }

    int size() {
      return size;
    }

    char at(int index) {
      return index >= 0 && index < size ? signs[index] : 0;
    }

    void add(char sign) {
      if (size < signs.length) {
        signs[size] = sign;
        size++;
      }
    }

    void addPart(Text from, int start, int end) {
      for (int index = start; index < end; index++) {
        add(from.at(index));
      }
    }

    void addForm(long form) {
      int length = Form.lengthOf(form);
      for (int index = 0; index < length; index++) {
        add(Form.letterAt(form, index));
      }
    }

    void empty() {
      size = 0;
    }

    Text copy() {
      Text made = new Text(size);
      made.addPart(this, 0, size);
      return made;
    }

    boolean sameAs(Text other) {
      if (size != other.size) {
        return false;
      }
      for (int index = 0; index < size; index++) {
        if (at(index) != other.at(index)) {
          return false;
        }
      }
      return true;
    }

    /** The first index from start on at which no letter stands. */
    int lettersEnd(int start) {
      int end = start;
      while (end < size && isLetter(at(end))) {
        end++;
      }
      return end;
    }
  }

  /**
   * Forms of up to 12 letters as numbers, so that no call makes objects for them: five bits for each letter, the
   * first one lowest, and the number of letters in the four bits above them. No form at all is 0.
   */
  private static final class Form {
    private static final int LETTER_BITS = 5;
    private static final int LENGTH_SHIFT = 60;

    static long of(Text text, int start, int end) {
      long letters = 0;
      for (int index = end - 1; index >= start; index--) {
        letters = (letters << LETTER_BITS) | (text.at(index) - 'a');
      }
      return ((long) (end - start) << LENGTH_SHIFT) | letters;
    }

    static int lengthOf(long form) {
      return (int) (form >>> LENGTH_SHIFT);
    }

    static char letterAt(long form, int index) {
      return (char) ('a' + (int) ((form >>> (LETTER_BITS * index)) & 31));
    }

    static int timesOf(long form, char letter) {
      int times = 0;
      int length = lengthOf(form);
      for (int index = 0; index < length; index++) {
        if (letterAt(form, index) == letter) {
          times++;
        }
      }
      return times;
    }
  }

  /** Finds the first character of a text that cannot stand there; -1 means that the text is right. */
  private static final class TextCheck {
    private boolean allowsMarks;
    private boolean isMarked;
    private int letters;
    private int words;
    private int wantedWords;
    private boolean wantsPairs;

    static int errorInRule(Text text) {
      int shortEnd = Math.min(text.lettersEnd(0), MOST_SHORT);
      if (shortEnd == 0 || text.at(shortEnd) != '=') {
        return shortEnd;
      }
      int start = shortEnd + 1;
      int end = Math.min(text.lettersEnd(start), start + MOST_LONG);
      if (end < text.size()) {
        return end;
      }
      return areForms(shortEnd, end - start) ? -1 : text.size();
    }

    int errorInText(Text text, boolean marks) {
      allowsMarks = marks;
      wantsPairs = false;
      return firstError(text);
    }

    int errorInPairs(Text text) {
      allowsMarks = false;
      wantsPairs = true;
      return firstError(text);
    }

    private int firstError(Text text) {
      startSide();
      wantedWords = 0;
      for (int index = 0; index < text.size(); index++) {
        if (!accepts(text.at(index))) {
          return index;
        }
      }
      boolean isWhole = letters > 0 && (!wantsPairs || words == wantedWords);
      return isWhole ? -1 : text.size();
    }

    private void startSide() {
      words = 1;
      startWord();
    }

    private void startWord() {
      letters = 0;
      isMarked = false;
    }

    private boolean accepts(char sign) {
      if (isLetter(sign)) {
        letters++;
        return letters <= MOST_LETTERS;
      }
      if (sign == '\'') {
        boolean isFirst = letters == 0 && !isMarked;
        isMarked = true;
        return allowsMarks && isFirst;
      }
      return letters > 0 && acceptsEnd(sign);
    }

    /** Whether a sign may stand behind a word; the words before "=" are the number wanted behind it. */
    private boolean acceptsEnd(char sign) {
      if (sign == ' ' && words != wantedWords) {
        words++;
        startWord();
        return true;
      }
      if (sign == '=' && wantsPairs && wantedWords == 0) {
        wantedWords = words;
        startSide();
        return true;
      }
      return false;
    }
  }

  /** The rules, pairs, mode, threshold and commands: what undo, replay and snapshot are about. */
  private static final class Book {
    private final int[] kinds = new int[MOST_RULES];
    private final int[] priorities = new int[MOST_RULES];
    private final int[] contexts = new int[MOST_RULES];
    private final long[] shortForms = new long[MOST_RULES];
    private final long[] longForms = new long[MOST_RULES];
    private int rules;
    private final int[] pairCounts = new int[MOST_PAIRS];
    private final long[] pairShorts = new long[MOST_PAIRS];
    private final long[] pairLongs = new long[MOST_PAIRS];
    private int pairs;
    private int mode = 1;
    private int threshold = 2;
    private Command lastCommand;
    private int commands;

    void startAgain() {
      rules = 0;
      pairs = 0;
      mode = 1;
      threshold = 2;
      lastCommand = null;
      commands = 0;
    }

    void note(Command command) {
      if (commands < MOST_CALLS) {
        lastCommand = command;
        commands++;
      }
    }

    void copyFrom(Book other) {
      System.arraycopy(other.kinds, 0, kinds, 0, MOST_RULES);
      System.arraycopy(other.priorities, 0, priorities, 0, MOST_RULES);
      System.arraycopy(other.contexts, 0, contexts, 0, MOST_RULES);
      System.arraycopy(other.shortForms, 0, shortForms, 0, MOST_RULES);
      System.arraycopy(other.longForms, 0, longForms, 0, MOST_RULES);
      rules = other.rules;
      System.arraycopy(other.pairCounts, 0, pairCounts, 0, MOST_PAIRS);
      System.arraycopy(other.pairShorts, 0, pairShorts, 0, MOST_PAIRS);
      System.arraycopy(other.pairLongs, 0, pairLongs, 0, MOST_PAIRS);
      pairs = other.pairs;
      mode = other.mode;
      threshold = other.threshold;
      lastCommand = other.lastCommand;
      commands = other.commands;
    }

    boolean sameAs(Book other) {
      if (rules != other.rules || pairs != other.pairs || mode != other.mode || threshold != other.threshold) {
        return false;
      }
      for (int rule = 0; rule < rules; rule++) {
        if (!hasSameRule(other, rule)) {
          return false;
        }
      }
      for (int pair = 0; pair < pairs; pair++) {
        if (!hasSamePair(other, pair)) {
          return false;
        }
      }
      return true;
    }

    private boolean hasSameRule(Book other, int rule) {
      return kinds[rule] == other.kinds[rule]
          && priorities[rule] == other.priorities[rule]
          && contexts[rule] == other.contexts[rule]
          && shortForms[rule] == other.shortForms[rule]
          && longForms[rule] == other.longForms[rule];
    }

    private boolean hasSamePair(Book other, int pair) {
      return pairCounts[pair] == other.pairCounts[pair]
          && pairShorts[pair] == other.pairShorts[pair]
          && pairLongs[pair] == other.pairLongs[pair];
    }

    void insertRule(int kind, int priority, int context, long shortForm, long longForm) {
      if (rules < MOST_RULES) {
        kinds[rules] = kind;
        priorities[rules] = priority;
        contexts[rules] = context;
        shortForms[rules] = shortForm;
        longForms[rules] = longForm;
        rules++;
      }
    }

    void insertText(int kind, int priority, int context, Text text) {
      int middle = text.lettersEnd(0);
      long shortForm = Form.of(text, 0, middle);
      long longForm = Form.of(text, middle + 1, text.size());
      insertRule(kind, priority, context, shortForm, longForm);
    }

    void dropRule(int gone) {
      if (gone < 0 || gone >= rules) {
        return;
      }
      rules--;
      for (int rule = gone; rule < rules; rule++) {
        kinds[rule] = kinds[rule + 1];
        priorities[rule] = priorities[rule + 1];
        contexts[rule] = contexts[rule + 1];
        shortForms[rule] = shortForms[rule + 1];
        longForms[rule] = longForms[rule + 1];
      }
    }

    void changePriority(int rule, int priority) {
      if (rule >= 0 && rule < rules) {
        priorities[rule] = priority;
      }
    }

    void changeContext(int rule, int context) {
      if (rule >= 0 && rule < rules) {
        contexts[rule] = context;
      }
    }

    long formOf(int rule, boolean isLong) {
      if (rule < 0 || rule >= rules) {
        return 0;
      }
      return isLong ? longForms[rule] : shortForms[rule];
    }

    boolean isOfKind(int rule, int kind) {
      return rule >= 0 && rule < rules && kinds[rule] == kind;
    }

    int priorityOf(int rule) {
      return rule >= 0 && rule < rules ? priorities[rule] : 0;
    }

    int placesOfRule(int rule) {
      int context = rule >= 0 && rule < rules ? contexts[rule] : -1;
      return context >= 0 && context < PLACES.length ? PLACES[context] : 0;
    }

    boolean isBetter(int rule, int than) {
      int more = priorityOf(rule) - priorityOf(than);
      if (more == 0) {
        more = Form.lengthOf(formOf(rule, true)) - Form.lengthOf(formOf(than, true));
      }
      return more == 0 ? rule < than : more > 0;
    }

    int betterRules(int rule) {
      int better = 0;
      for (int other = 0; other < rules; other++) {
        if (isBetter(other, rule)) {
          better++;
        }
      }
      return better;
    }

    boolean isShadowedBy(int rule, int other, boolean isLong) {
      int uncovered = placesOfRule(rule) & (ALL_PLACES - placesOfRule(other));
      return haveSameKind(rule, other) && isBetter(other, rule)
          && formOf(rule, isLong) == formOf(other, isLong) && uncovered == 0;
    }

    private boolean haveSameKind(int rule, int other) {
      return rule >= 0 && rule < rules && isOfKind(other, kinds[rule]);
    }

    private boolean collide(int rule, int other) {
      return haveSameKind(rule, other)
          && formOf(rule, false) == formOf(other, false)
          && formOf(rule, true) != formOf(other, true)
          && (placesOfRule(rule) & placesOfRule(other)) != 0;
    }

    int collisions() {
      int number = 0;
      for (int rule = 0; rule < rules; rule++) {
        for (int other = rule + 1; other < rules; other++) {
          if (collide(rule, other)) {
            number++;
          }
        }
      }
      return number;
    }

    /** One of the two rules of a collision, or -1 if there is no such collision. */
    int collidingRule(int index, boolean second) {
      int number = 0;
      for (int rule = 0; rule < rules; rule++) {
        for (int other = rule + 1; other < rules; other++) {
          if (collide(rule, other)) {
            if (number == index) {
              return second ? other : rule;
            }
            number++;
          }
        }
      }
      return -1;
    }

    int savingOf(int rule) {
      int saved = Form.lengthOf(formOf(rule, true)) - Form.lengthOf(formOf(rule, false));
      return isOfKind(rule, WORDS) ? saved : 2 * saved;
    }

    /** The lowest rule for words with these forms, or -1. */
    int wordRule(long shortForm, long longForm) {
      for (int rule = 0; rule < rules; rule++) {
        if (kinds[rule] == WORDS && shortForms[rule] == shortForm && longForms[rule] == longForm) {
          return rule;
        }
      }
      return -1;
    }

    /** Learns a right text of pairs; the two sides have the same number of words. */
    void learnText(Text text) {
      int left = 0;
      int right = equalsSign(text) + 1;
      for (int number = 0; number < MOST_WORDS && right < text.size(); number++) {
        int leftEnd = text.lettersEnd(left);
        int rightEnd = text.lettersEnd(right);
        if (areForms(leftEnd - left, rightEnd - right)) {
          learnForms(Form.of(text, left, leftEnd), Form.of(text, right, rightEnd));
        }
        left = leftEnd + 1;
        right = rightEnd + 1;
      }
    }

    private static int equalsSign(Text text) {
      int index = 0;
      while (index < text.size() && text.at(index) != '=') {
        index++;
      }
      return index;
    }

    private void learnForms(long shortForm, long longForm) {
      int pair = pairWith(shortForm, longForm);
      if (pair >= MOST_PAIRS) {
        return;
      }
      if (pair == pairs) {
        pairShorts[pair] = shortForm;
        pairLongs[pair] = longForm;
        pairCounts[pair] = 0;
        pairs++;
      }
      pairCounts[pair]++;
      if (pairCounts[pair] == threshold && wordRule(shortForm, longForm) < 0) {
        insertRule(WORDS, 10 * threshold, 0, shortForm, longForm);
      }
    }

    /** The pair with these forms, or the number that it would get. */
    private int pairWith(long shortForm, long longForm) {
      for (int pair = 0; pair < pairs; pair++) {
        if (pairShorts[pair] == shortForm && pairLongs[pair] == longForm) {
          return pair;
        }
      }
      return pairs;
    }
  }

  /** A command as it was given, with the one before it. */
  private static final class Command {
    private final Command previous;
    private final int deed;
    private final int first;
    private final int second;
    private final int third;
    private final Text text;

    Command(Command previous, int deed, int first, int second, int third, Text text) {
      this.previous = previous;
      this.deed = deed;
      this.first = first;
      this.second = second;
      this.third = third;
      this.text = text;
    }

    void applyTo(Book book) {
      switch (deed) {
        case ADD:
          if (text != null) {
            book.insertText(first, second, third, text);
          }
          break;
        case REMOVE:
          book.dropRule(first);
          break;
        case PRIORITY:
          book.changePriority(first, second);
          break;
        case CONTEXT:
          book.changeContext(first, second);
          break;
        case MODE:
          book.mode = first;
          break;
        case THRESHOLD:
          book.threshold = first;
          break;
        default:
          if (text != null) {
            book.learnText(text);
          }
          break;
      }
    }
  }

  /** The books as they were before each command that can be undone, the oldest first. */
  private static final class History {
    private final Book[] before = new Book[MOST_UNDOS];
    private int size;

    History() {
      for (int number = 0; number < before.length; number++) {
        before[number] = new Book();
      }
    }

    void forget() {
      size = 0;
    }

    void keep(Book book) {
      if (size < before.length) {
        size++;
      } else {
        moveOldestToEnd();
      }
      Book kept = before[size - 1];
      if (kept != null) {
        kept.copyFrom(book);
      }
    }

    private void moveOldestToEnd() {
      Book oldest = before[0];
      for (int number = 1; number < before.length; number++) {
        before[number - 1] = before[number];
      }
      before[before.length - 1] = oldest;
    }

    void putBack(Book book) {
      if (size > 0) {
        size--;
        Book kept = before[size];
        if (kept != null) {
          book.copyFrom(kept);
        }
      }
    }
  }

  /** Finds the short or the long form of a word by the rules, and which rules give it. */
  private static final class Speller {
    private final Text spelled = new Text(WORD_ROOM);
    private int mainRule;
    private int endRule;

    void spell(Book book, Text word, int place, boolean shorten) {
      mainRule = bestRule(book, word, place, WORDS, shorten);
      endRule = -1;
      if (mainRule < 0) {
        mainRule = bestRule(book, word, place, BEGINNINGS, shorten);
        endRule = bestRule(book, word, place, ENDS, shorten);
        dropWorseOfTwo(book, word, shorten);
      }
      write(book, word, shorten);
    }

    private static int bestRule(Book book, Text word, int place, int kind, boolean shorten) {
      int best = -1;
      for (int rule = 0; rule < book.rules; rule++) {
        if (book.isOfKind(rule, kind)
            && ((book.placesOfRule(rule) >> place) & 1) == 1
            && stands(book.formOf(rule, shorten), word, kind)
            && (best < 0 || book.isBetter(rule, best))) {
          best = rule;
        }
      }
      return best;
    }

    private static boolean stands(long form, Text word, int kind) {
      int length = Form.lengthOf(form);
      int rest = word.size() - length;
      if (kind == WORDS ? rest != 0 : rest <= 0) {
        return false;
      }
      int start = kind == ENDS ? rest : 0;
      for (int index = 0; index < length; index++) {
        if (Form.letterAt(form, index) != word.at(start + index)) {
          return false;
        }
      }
      return true;
    }

    private void dropWorseOfTwo(Book book, Text word, boolean shorten) {
      if (mainRule < 0 || endRule < 0) {
        return;
      }
      int together = Form.lengthOf(book.formOf(mainRule, shorten)) + Form.lengthOf(book.formOf(endRule, shorten));
      if (together > word.size()) {
        if (book.isBetter(mainRule, endRule)) {
          endRule = -1;
        } else {
          mainRule = -1;
        }
      }
    }

    private void write(Book book, Text word, boolean shorten) {
      int start = Form.lengthOf(book.formOf(mainRule, shorten));
      int end = word.size() - Form.lengthOf(book.formOf(endRule, shorten));
      spelled.empty();
      spelled.addForm(book.formOf(mainRule, !shorten));
      spelled.addPart(word, start, end);
      spelled.addForm(book.formOf(endRule, !shorten));
    }

    int deed(Book book) {
      if (book.isOfKind(mainRule, WORDS)) {
        return USED_WORD;
      }
      if (mainRule >= 0) {
        return endRule >= 0 ? USED_BOTH : USED_BEGINNING;
      }
      return endRule >= 0 ? USED_END : STAYED;
    }
  }

  /** What becomes of one word of a text. */
  private static final class Turn {
    private final Speller speller = new Speller();
    private final Speller backSpeller = new Speller();
    private final Text outcome = new Text(WORD_ROOM);
    private boolean isMarked;
    private int deed;
    private int mainRule;
    private int endRule;

    void shortenWord(Book book, Text word, int place) {
      speller.spell(book, word, place, true);
      if (book.mode == 0) {
        takeSpelled(book);
        return;
      }
      backSpeller.spell(book, speller.spelled, place, false);
      if (backSpeller.spelled.sameAs(word)) {
        takeSpelled(book);
        return;
      }
      // Without rules, the short form would be the word, and this the same question as the one before.
      backSpeller.spell(book, word, place, false);
      boolean stays = backSpeller.spelled.sameAs(word);
      takeWord(word, stays ? STAYED_WITH_RULES : MARKED);
      isMarked = !stays;
    }

    void lengthenWord(Book book, Text word, int place) {
      speller.spell(book, word, place, false);
      takeSpelled(book);
    }

    void unmarkWord(Text word) {
      takeWord(word, MARKED);
    }

    private void takeSpelled(Book book) {
      takeWord(speller.spelled, speller.deed(book));
      mainRule = speller.mainRule;
      endRule = speller.endRule;
    }

    private void takeWord(Text word, int done) {
      outcome.empty();
      outcome.addPart(word, 0, word.size());
      isMarked = false;
      deed = done;
      mainRule = -1;
      endRule = -1;
    }
  }

  /** The text that was abbreviated or expanded last, with what was done for each word. */
  private static final class Result {
    private final Text output = new Text(OUTPUT_ROOM);
    private final int[] deeds = new int[MOST_WORDS];
    private final int[] mainRules = new int[MOST_WORDS];
    private final int[] endRules = new int[MOST_WORDS];
    private final int[] givenLengths = new int[MOST_WORDS];
    private final int[] lengths = new int[MOST_WORDS];
    private final int[] starts = new int[MOST_WORDS];
    private int words;
    private int givenSize;
    private int uses;
    private int prioritySum;
    private int markedWords;
    private boolean isAbbreviated;
    private boolean isThere;

    void begin(int size, boolean shorten) {
      output.empty();
      words = 0;
      givenSize = size;
      uses = 0;
      prioritySum = 0;
      markedWords = 0;
      isAbbreviated = shorten;
      isThere = true;
    }

    void record(Turn turn, int givenLength, Book book) {
      if (words >= MOST_WORDS) {
        return;
      }
      if (words > 0) {
        output.add(' ');
      }
      deeds[words] = turn.deed;
      mainRules[words] = turn.mainRule;
      endRules[words] = turn.endRule;
      givenLengths[words] = givenLength;
      lengths[words] = turn.outcome.size();
      starts[words] = output.size();
      words++;
      writeWord(turn);
      countUse(turn.mainRule, book);
      countUse(turn.endRule, book);
    }

    private void writeWord(Turn turn) {
      if (turn.isMarked) {
        output.add('\'');
        markedWords++;
      }
      output.addPart(turn.outcome, 0, turn.outcome.size());
    }

    private void countUse(int rule, Book book) {
      if (rule >= 0) {
        uses++;
        prioritySum += book.priorityOf(rule);
      }
    }
  }

  /** A row of lengths, either whole numbers or shares. */
  private static final class Row {
    private final int[] wholes = new int[MOST_WORDS];
    private final float[] shares = new float[MOST_WORDS];
    private int size;
    private boolean isExact;
    private boolean isStored;

    void store(Result result, boolean exact) {
      size = result.words;
      isExact = exact;
      isStored = true;
      for (int index = 0; index < size; index++) {
        if (exact) {
          wholes[index] = result.lengths[index];
        } else {
          float divisor = (float) result.givenLengths[index];
          shares[index] = divisor > 0f ? (float) result.lengths[index] / divisor : 0f;
        }
      }
    }

    float elementAt(int index) {
      if (index < 0 || index >= size) {
        return 0f;
      }
      return isExact ? (float) wholes[index] : shares[index];
    }

    /** Takes the first elements of a row of the same type and no less length; whether one has changed. */
    boolean takeFrom(Row source, int number) {
      boolean hasChanged = false;
      for (int index = 0; index < number && index < size; index++) {
        if (elementAt(index) != source.elementAt(index)) {
          hasChanged = true;
        }
        wholes[index] = source.wholes[index];
        shares[index] = source.shares[index];
      }
      return hasChanged;
    }
  }
}
