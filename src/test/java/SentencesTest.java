import java.io.IOException;
import java.nio.file.Files;
import java.nio.file.Path;
import java.util.ArrayList;
import java.util.Arrays;
import java.util.List;
import java.util.regex.Matcher;
import java.util.regex.Pattern;
import java.util.stream.Stream;

/**
 * The sentences of the document that name no boundary, from its first line on; and that each of its sentences is named
 * by a test, here or in one of the Edges..Tests.
 */
public final class SentencesTest {
  private static final Edges DOC = new Edges();

  public static void main(String[] args) throws IOException {
    whatItIs();
    slices();
    spirals();
    walks();
    flat();
    clauses();
    bits();
    chancesOfLetters();
    chancesOfWords();
    seen();
    printed();
    length();
    back();
    everySentenceIsNamed();
    DOC.close();
  }

  private static CharredRoll oneTurn() {
    CharredRoll x = new CharredRoll(3, 4);
    for (int slice = 0; slice < 6; slice++) {
      x.wound(slice, 1);
    }
    return x;
  }

  private static CharredRoll walk(int... radii) {
    CharredRoll x = new CharredRoll(3, 4);
    for (int radius : radii) {
      x.step(radius);
    }
    return x;
  }

  /** Nine places to a slice, none of them ink to reader 0; letter 0 is empty, letter 1 has its first bit. */
  private static CharredRoll blank() {
    CharredRoll x = Rolls.threeTurns();
    Rolls.read(x, "ink crack>4;");
    x.letter(0, 1);
    x.letter(1, 2);
    return x;
  }

  private static void whatItIs() {
    DOC.says("What it is", "walks that went over to another turn, found and put back");
    CharredRoll x = walk(0, 1, 1);
    x.jump(0);
    DOC.is("went over", x.walked(0, 0, 1), 1);
    DOC.is("found", x.walked(0, 0, 101), 4);
    DOC.is("put back", x.walked(0, 0, 100), 0);
    DOC.says("What it is", "letters by ink alone, words joined after, both told");
    x = blank();
    x.word(1, -1, -1, 5);
    DOC.is("by ink alone", x.box(0, 0, 0, 0), 0);
    DOC.is("joined after", x.joined(0, 0, 0, 0), 0);
    DOC.is("what isn't the letter by ink isn't printed", x.printed(1, 0, 0, 0, 1), -1);
    DOC.says("What it is", "how often a reader sees a letter where there is none");
    DOC.is("by five tenths", x.seen(5, 9), 2 * 1953125);
  }

  private static void slices() {
    DOC.says("Terms I", "At each of a SLICE, ANGLE and RADIUS GREY and CRACK");
    CharredRoll x = oneTurn();
    x.grey(2, 1, 2, 7, 3);
    Rolls.read(x, "ink crack=3;");
    for (int slice = 0; slice < 6; slice++) {
      DOC.is("fit of " + slice, x.best(slice, 0), slice == 2 ? 7 : 0);
      for (int place = 0; place < 3; place++) {
        DOC.is("ink of " + slice + " at " + place, x.ink(0, slice, place), slice == 2 && place == 1 ? 1 : 0);
      }
    }
    DOC.is("the radius", x.best(2, 101), 2);
    DOC.says("Promise 3", "CRACK as it is: true");
    DOC.yes("a column", x.column(2, 1, 700));
    DOC.is("ink as it was", x.ink(0, 2, 1), 1);
  }

  private static void spirals() {
    DOC.says("Terms I", "A SPIRAL: a RADIUS for each PLACE");
    CharredRoll x = oneTurn();
    // At the third place 5, 8, 8 and 5 ways lead to the four radii.
    DOC.is("rows of three radii", x.best(0, 1), 26);
    DOC.is("of the last place", x.best(0, 102), 0);
    DOC.is("of a fourth", x.best(0, 103), -1);
    DOC.says("Terms I", "that in a SLICE a PLACE has a RADIUS");
    DOC.says("Promise 5", "A PIN: how many there are");
    DOC.is("a pin", x.pin(1, 2, 3), 1);
    DOC.is("another", x.pin(2, 2, 2), 2);
    DOC.is("one in a third slice", x.pin(0, 0, 3), 3);
    DOC.says("Promise 6", "BEST of a SLICE: 0 FIT, 1 how many");
    DOC.is("to the outermost", x.best(1, 1), 5);
    DOC.is("to the next", x.best(2, 1), 8);
    DOC.is("from the outermost", x.best(0, 1), 5);
    DOC.is("of a slice without", x.best(3, 1), 26);
    DOC.says("Terms I", "BEST: SPIRALS by PINS of the greatest FIT");
    x.grey(0, 0, 0, 9, 0);
    x.grey(3, 0, 0, 9, 0);
    DOC.is("the pin keeps from the grey", x.best(0, 0), 0);
    DOC.is("without a pin", x.best(3, 0), 9);
    DOC.is("from the innermost", x.best(3, 1), 5);
    x.grey(0, 1, 2, 4, 0);
    x.grey(0, 2, 3, 1, 0);
    DOC.is("the best that the pin leaves", x.best(0, 0), 5);
    DOC.is("one alone", x.best(0, 1), 1);
    DOC.says("Terms I", "THE BEST: of them that with the least RADIUS at PLACE 0");
    DOC.is("at place 0", x.best(0, 100), 3);
    DOC.is("at place 1", x.best(0, 101), 2);
    DOC.is("at place 2", x.best(0, 102), 3);
  }

  private static void walks() {
    DOC.says("Terms I", "RADII (30 at most, told one by one) that somebody went along from a PLACE p on, step by step");
    DOC.says("Promise 10", "THE WALK EXPLAINED in a SLICE from a PLACE that is there: 0 THE LEAST, 1 how many changes");
    // THE BEST is 0 0 0 1 1 1.
    CharredRoll x = walk(0, 1, 1);
    DOC.is("from 2", x.walked(0, 2, 0), 0);
    DOC.is("from 3", x.walked(0, 3, 0), 1);
    DOC.is("from 1", x.walked(0, 1, 0), 1);
    DOC.is("from 0", x.walked(0, 0, 0), 2);
    DOC.says("Terms I", "EXPLAINED: each step t belongs to PLACE p + t + A s, "
        + "s being how many TURNS it went over so far");
    for (int p = 0; p < 4; p++) {
      for (int t = 0; t < 3; t++) {
        DOC.is("no change from " + p, x.walked(0, p, 100 + t), p + t);
      }
      DOC.is("changes from " + p, x.walked(0, p, 1), 0);
    }
    x.jump(0);
    DOC.is("step 0", x.walked(0, 0, 100), 0);
    DOC.is("step 1", x.walked(0, 0, 101), 4);
    DOC.is("step 2", x.walked(0, 0, 102), 5);
    DOC.says("Terms I", "it costs how far its RADIUS is from THE BEST one there");
    x = walk(3, 3, 3);
    DOC.is("two for each step", x.walked(0, 3, 0), 6);
    DOC.is("three for each: to go over would save two and cost five", x.walked(0, 0, 0), 9);
    DOC.says("Terms I", "and JUMP (0 .. 99; at first 5) for each change of s");
    x = walk(0, 1, 0, 1);
    x.jump(1);
    // Over at step 1 and back at step 2 would be two changes; step 3 is at place 3 either way.
    DOC.is("one radius off", x.walked(0, 0, 0), 1);
    DOC.is("no change", x.walked(0, 0, 1), 0);
    x.jump(0);
    DOC.is("nothing off", x.walked(0, 0, 0), 0);
    DOC.is("over, and back", x.walked(0, 0, 1), 2);
    DOC.says("Terms I", "THE LEAST of all");
    x = walk(0, 1, 1);
    int[] least = {0, 1, 2, 2};
    int[] changes = {1, 1, 0, 0};
    for (int jump = 0; jump < 4; jump++) {
      x.jump(jump);
      DOC.is("by jump " + jump, x.walked(0, 0, 0), least[jump]);
      DOC.is("changes by jump " + jump, x.walked(0, 0, 1), changes[jump]);
    }
  }

  private static void flat() {
    DOC.says("Terms I", "LAID FLAT: the width from PLACE i to i + 1");
    DOC.says("Terms I", "of their LENGTHS at i (RADIUS of THE BEST and 1 more)");
    DOC.says("Promise 11", "LAID FLAT: the width from PLACE i to i + 1 (what 0)");
    CharredRoll x = new CharredRoll(3, 4);
    int[] widths = {1, 1, 1, 2, 2};
    for (int i = 0; i < 5; i++) {
      DOC.is("width at " + i, x.flat(2, i, 0), widths[i]);
      DOC.is("all have it", x.flat(2, i, 2), 0);
    }
    DOC.is("nothing behind the last place", x.flat(2, 5, 0), -1);
    DOC.says("Terms I", "STRETCH: how far LENGTHS are from it, together");
    x.pin(0, 0, 2);
    x.pin(1, 0, 1);
    // Lengths at place 0 are 3 2 1 1 1 1, at place 1 they are 2 1 1 1 1 1.
    DOC.is("width", x.flat(2, 0, 0), 1);
    DOC.is("two and one", x.flat(2, 0, 1), 3);
    DOC.is("one", x.flat(2, 1, 1), 1);
    DOC.is("all up to it", x.flat(2, 1, 2), 4);
  }

  private static void clauses() {
    DOC.says("Terms II", "{CLAUSE}, 10 at most: ink EITHER ; or bare EITHER ;");
    ink("ink 1=1;", 1);
    ink("bare 1=1;", 0);
    ink("ink 1=1;bare 1=1;", 0);
    ink("bare 1=1;ink 1=1;", 0);
    ink("ink 1=1;bare 1=0;", 1);
    DOC.says("Terms II", "ASK: not ASK, or SUM one of < <= > >= = # (unlike) SUM");
    ink("ink not 1=2;", 1);
    ink("ink not not 1=2;", 0);
    ink("ink 1#2;", 1);
    DOC.says("Terms II", "From the left");
    ink("ink 10-4-3=3;", 1);
    ink("ink 7-2+1=6;", 1);
    ink("ink 100/5/2=10;", 1);
    ink("ink 8/4*2=4;", 1);
    ink("ink 5*3/2=7;", 1);
    ink("ink 1000*1000*2/2=500*1000;", 1);
    DOC.says("Terms II", "or and and look at both sides always");
    ink("ink 1=1 or 1/0=1;", 1);
    ink("ink 1=0 and 1/0=1;", 0);
    ink("ink 1=0 or 1/0=0;", 1);
  }

  private static void ink(String text, int due) {
    CharredRoll x = new CharredRoll(3, 4);
    DOC.is(text, Rolls.read(x, text), 0);
    DOC.is(text, x.ink(0, 0, 0), due);
  }

  private static void bits() {
    DOC.says("Terms II", "BITS (60 at most): that at a SLICE and PLACE there is ink or none, of a GROUP (0 .. 3)");
    CharredRoll x = new CharredRoll(3, 4);
    Rolls.read(x, "ink radius=0;");
    // Ink is seen at places 0 to 2: two of the four are told as it is.
    for (int group = 0; group < 4; group++) {
      DOC.is("of group " + group, x.bit(0, group, group != 1, group), group + 1);
    }
    DOC.says("Terms II", "of those of GROUPS it learnt from, or of the others");
    DOC.says("Promise 19", "RIGHT: of GROUPS it learnt from (own) or of others");
    for (int groups = 0; groups < 16; groups++) {
      DOC.yes("learnt " + groups, x.learnt(0, groups));
      int right = (groups & 1) + (groups >> 2 & 1);
      DOC.is("own of " + groups, x.right(0, true, 0), right);
      DOC.is("of how many own", x.right(0, true, 1), Integer.bitCount(groups));
      DOC.is("others of " + groups, x.right(0, false, 0), 2 - right);
      DOC.is("of how many others", x.right(0, false, 1), 4 - Integer.bitCount(groups));
    }
  }

  private static void chancesOfLetters() {
    DOC.says("Terms III", "A BOX at SLICE z (0 .. 3) and PLACE i: SLICES z, z + 1, z + 2 (rows) "
        + "by PLACES i, i + 1, i + 2 (columns");
    DOC.says("Promise 23", "At a BOX by a READER");
    CharredRoll x = Rolls.threeTurns();
    Rolls.read(x, "ink crack>4;");
    Rolls.read(x, "");
    x.letter(0b000_100_000, 1);
    Rolls.draw(x, 1, 2, 0b000_100_000);
    DOC.is("there", x.box(0, 1, 2, 100), 9);
    DOC.is("a slice up", x.box(0, 2, 2, 100), 7);
    DOC.is("a place on", x.box(0, 1, 3, 100), 7);
    DOC.is("three places on", x.box(0, 1, 5, 100), 8);
    DOC.is("to a reader that sees nothing", x.box(1, 1, 2, 100), 8);
    DOC.says("Terms III", "CHANCE of a LETTER at a BOX: WEIGHT * HIT to the LIKE * MISS to the rest");
    x = blank();
    DOC.is("19683 against 2 * 6561", x.box(0, 0, 0, 0), 0);
    DOC.is("19683 of 32805", x.box(0, 0, 0, 1), 600);
    x.chances(3, 2);
    DOC.is("19683 against 2 * 6561 * 2", x.box(0, 0, 0, 0), 1);
    DOC.is("26244 of 45927", x.box(0, 0, 0, 1), 571);
    x.chances(2, 3);
    DOC.is("512 against 2 * 256 * 3", x.box(0, 0, 0, 1), 750);
  }

  private static void chancesOfWords() {
    DOC.says("Terms III", "JOINED: WORDS at SLICE z from PLACE i on "
        + "(all BOXES at i, i + 3, .. are some; others aren't asked): "
        + "CHANCE: WEIGHT of the WORD times HIT to the LIKE * MISS to the rest of all its BOXES");
    CharredRoll x = blank();
    x.word(0, 0, 0, 1);
    x.word(1, 1, 0, 9);
    x.word(1, 0, 0, 6);
    // 3 to the 27, 9 times 3 to the 25, 6 times 3 to the 26.
    DOC.is("the greatest", x.joined(0, 0, 0, 0), 2);
    DOC.is("half of all", x.joined(0, 0, 0, 1), 500);
    DOC.is("a quarter", x.joined(0, 0, 0, 100), 250);
    DOC.is("a quarter", x.joined(0, 0, 0, 101), 250);
    DOC.is("from place 1 on there is no room", x.joined(0, 0, 1, 0), -1);
    DOC.says("Promise 24", "JOINED: 0 THE WORD");
    DOC.is("in other slices", x.joined(0, 3, 0, 0), 2);
    DOC.says("Terms III", "times HIT and MISS's greater, 9 to each (so that shorter ones are no likelier)");
    x = blank();
    x.word(0, -1, -1, 1);
    x.word(0, 0, -1, 1);
    x.word(0, 0, 0, 1);
    for (int word = 0; word < 3; word++) {
      DOC.is("a third", x.joined(0, 0, 0, 100 + word), 333);
    }
    DOC.is("the lowest", x.joined(0, 0, 0, 0), 0);
  }

  private static void seen() {
    DOC.says("Terms III", "SEEN where nothing is: each bit of a BOX is INK with q tenths (0 .. 10): "
        + "in 1000000000 how often");
    CharredRoll x = new CharredRoll(3, 4);
    x.letter(1, 1);
    DOC.is("3 times 7 to the 8", x.seen(3, 9), 17294403);
    // And 7 to the 9 without the bit, and 8 times 9 times 7 to the 7 with one more.
    DOC.is("eight bits or more", x.seen(3, 8), 17294403 + 40353607 + 59295096);
    x.letter(0, 99);
    DOC.is("two letters", x.seen(3, 9), 17294403 + 40353607);
  }

  private static void printed() {
    DOC.says("Terms III", "PRINTED: THE WORD at a SLICE and PLACE by READERS (a set)");
    CharredRoll x = Rolls.threeTurns();
    Rolls.read(x, "ink crack>4;");
    Rolls.read(x, "");
    x.letter(0b100_010_001, 1);
    x.letter(0, 1);
    x.word(0, -1, -1, 1);
    x.word(1, -1, -1, 1);
    Rolls.draw(x, 0, 0, 0b100_010_001);
    DOC.is("by none", x.printed(0, 0, 0, 0, 1), -1);
    DOC.is("by the first", x.printed(1, 0, 0, 0, 1), 0);
    DOC.is("by the second", x.printed(2, 0, 0, 0, 1), 1);
    DOC.is("by both", x.printed(3, 0, 0, 0, 1), 0);
    DOC.is("by two of both", x.printed(3, 0, 0, 0, 2), -1);
    DOC.is("where both see the same", x.printed(3, 0, 3, 0, 2), 1);
    DOC.is("in another slice", x.printed(1, 3, 0, 0, 1), 1);
    DOC.says("Terms III", "and to which each of its LETTERS is the one BY INK alone in its BOX");
    x.letter(0, 2);
    DOC.is("by ink another letter is likelier now", x.printed(2, 0, 0, 0, 1), -1);
    DOC.is("but not in a stroke", x.printed(1, 0, 0, 0, 1), 0);
  }

  private static void length() {
    DOC.says("Terms IV", "LENGTH: of the outermost TURN that is left (1 .. 9999)");
    DOC.says("Terms IV", "all TURNS together, with the first: the least "
        + "(each HIGH shorter, as long as that isn't below LEAST), the greatest (each LOW shorter likewise)");
    DOC.says("Promise 27", "LENGTH: the least (high false), the greatest");
    CharredRoll x = new CharredRoll(3, 4);
    DOC.is("20 14 8", x.length(20, 2, 6, 3, false), 42);
    DOC.is("20 14 8 2", x.length(20, 2, 6, 2, false), 44);
    DOC.is("20 18 .. 4", x.length(20, 2, 6, 3, true), 108);
    DOC.is("20 18 .. 2", x.length(20, 2, 6, 2, true), 110);
    DOC.is("the first alone", x.length(20, 2, 6, 20, true), 20);
  }

  private static void back() {
    DOC.says("Terms IV", "`NONE = -1`: None");
    DOC.is("none", CharredRoll.NONE, -1);
    DOC.says("Terms IV", "BACK: all is so again");
    CharredRoll x = Rolls.some();
    x.image();
    Rolls.tear(x, 4);
    x.wound(0, 1);
    x.unwalk();
    x.bit(5, 5, true, 2);
    x.chances(1, 1);
    x.part(1, 999, 2);
    x.fetch(3, 9);
    x.letter(7, 7);
    x.learnt(0, 15);
    x.reader();
    x.back();
    DOC.yes("all is so again", Arrays.equals(Rolls.held(x), Rolls.held(Rolls.some())));
    DOC.is("but the tape", x.about(9), 0);
    DOC.is("and the latest fault", x.fault(0), 0);
  }

  /** What no test names: connecting words alone, never four in a row. */
  private static void everySentenceIsNamed() throws IOException {
    List<String> named = new ArrayList<>();
    try (Stream<Path> files = Files.list(Path.of("src/test/java"))) {
      for (Path file : files.filter(p -> p.toString().endsWith("Test.java")).toList()) {
        collect(Files.readString(file), named);
      }
    }
    DOC.says("Terms I", "SLICES 0 .. 5");
    for (String piece : Document.without(named)) {
      DOC.yes("no test names \"" + piece + "\"", piece.split("[^A-Za-z0-9']+").length < 5);
    }
  }

  private static void collect(String source, List<String> named) {
    Matcher m = Pattern.compile("says\\(\"[^\"]*\",\\s*((?:\"[^\"]*\"\\s*\\+?\\s*)+)\\)").matcher(source);
    while (m.find()) {
      StringBuilder words = new StringBuilder();
      for (Matcher part = Pattern.compile("\"([^\"]*)\"").matcher(m.group(1)); part.find(); ) {
        words.append(part.group(1));
      }
      named.add(words.toString());
    }
  }
}
