import java.io.IOException;
import java.nio.file.Path;
import java.util.Set;

/** Each sentence of the document that names a boundary has a test of its own, which names the sentence. */
public final class BoundariesTest {
  /** The clauses of the document that name no boundary: headings, and what is done or answered in general. */
  private static final String WITHOUT_BOUNDARY = """
      An expander of abbreviations: rules for whole words, beginnings and ends of words with contexts and \
      priorities, texts that are abbreviated and expanded word by word, a mode in which every text can be \
      restored, pairs that are learned from texts until they become rules, collisions of rules, explanations for \
      each word, rows of lengths, undo, a replay of all commands, and a snapshot.
      what later calls answer is free.
      Words and texts.
      Rules.
      Contexts.
      Short forms.
      The short form of a word at a place is found like this, by the rules that fit there.
      Long forms.
      Abbreviating.
      To abbreviate a text means to go through its words.
      Learning.
      Collisions.
      Text of a rule.
      Commands.
      Results.
      Details.
      Exceptions.
      The constructor and the methods follow, a promise each: the signature, then what it does.
      Appends a character to the input buffer.
      - `character`: the character
      Adds a rule with the forms in the input buffer.
      - `kind`: the kind
      - `priority`: the priority
      - `context`: the context
      Removes a rule.
      - `rule`: the rule
      Sets the priority of a rule.
      Sets the context of a rule.
      Sets the mode.
      Sets the threshold.
      Returns a number of a rule.
      Returns a letter of a form of a rule.
      - `isLong`: whether the long form is meant
      Returns the letter.
      Returns a number about all rules and settings.
      Returns a rule of a collision.
      Returns the rule.
      - `better`: the number of rules that are better
      - `rule`: the rule that is shadowed
      - `isLong`: whether the long forms must be the same, as for abbreviating, or the short forms, as for expanding
      - `letter`: the letter
      - `isLong`: whether the long forms are meant
      Returns the number of times.
      Returns the sum.
      Learns the pairs of the text of pairs in the input buffer.
      Returns a number of a pair.
      - `pair`: the pair
      Returns the number.
      Returns the error position.
      Returns a character of the result.
      Returns the character.
      Returns a number about a word of the result.
      - `word`: the word
      Returns a number about the result.
      Returns the share.
      Returns the mean.
      - `count`: the number of elements
      - `index`: the index
      Returns the bits.
      Returns whether they are the same.
      Takes a snapshot of the rules, pairs, mode, threshold and commands.
      """;

  public static void main(String[] args) throws IOException {
    Boundaries boundaries = new Boundaries(new Document(Path.of("../shared/DOC.md")));
    new DescriptionBoundaries(boundaries).run();
    new DetailBoundaries(boundaries).run();
    new RuleBoundaries(boundaries).run();
    new TextBoundaries(boundaries).run();
    new RowBoundaries(boundaries).run();
    boundaries.covered(Set.of(WITHOUT_BOUNDARY.split("\n")));
    boundaries.end();
  }
}
