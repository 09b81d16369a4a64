import java.util.Arrays;
import java.util.function.Supplier;

/**
 * What the tests of boundary cases share: which sentence of the document is tried, what is due, and that a refused
 * call changes nothing.
 */
final class Edges {
  static final int MIN = Integer.MIN_VALUE;
  static final int MAX = Integer.MAX_VALUE;

  /** A call with its arguments; a boolean counts 1 or 0. */
  interface Call {
    long on(CharredRoll x, int... a);
  }

  private String sentence = "";
  private int sentences;
  private int answers;
  private int wrong;

  /** The sentence that the answers behind this belong to. */
  void says(String where, String words) {
    sentence = where + ", \"" + words + "\"";
    sentences++;
    yes("the document's own words", Document.says(where, words));
  }

  void is(String call, long got, long due) {
    answers++;
    if (got != due) {
      wrong++;
      System.out.println(sentence + ": " + call + " answered " + got + ", due is " + due);
    }
  }

  void yes(String call, boolean got) {
    is(call, got ? 1 : 0, 1);
  }

  void no(String call, boolean got) {
    is(call, got ? 1 : 0, 0);
  }

  void taken(String call, long got, long refusal) {
    yes(call + " is taken", got != refusal);
  }

  /** Of two rolls made alike the one is asked, and must refuse; all that can be asked of both is then the same. */
  void refuses(String name, Supplier<CharredRoll> made, Call call, long refusal, int... a) {
    CharredRoll asked = made.get();
    is(name + " " + Arrays.toString(a), call.on(asked, a), refusal);
    unchanged(name + " " + Arrays.toString(a), made, asked);
  }

  void unchanged(String call, Supplier<CharredRoll> made, CharredRoll asked) {
    yes(call + " changes nothing", Arrays.equals(Rolls.all(asked), Rolls.all(made.get())));
  }

  /** Each argument in turn, the others as given: the last that is taken on each side, the first that is refused. */
  void limits(String name, Supplier<CharredRoll> made, Call call, long refusal, int[] given, int[][] limits) {
    for (int i = 0; i < limits.length; i++) {
      int[] a = given.clone();
      for (int value : limits[i]) {
        a[i] = value;
        taken(name + " " + Arrays.toString(a), call.on(made.get(), a), refusal);
      }
      for (int value : new int[] {limits[i][0] - 1, limits[i][1] + 1, MIN, MAX}) {
        a[i] = value;
        refuses(name, made, call, refusal, a);
      }
    }
  }

  static int num(boolean b) {
    return b ? 1 : 0;
  }

  void close() {
    System.out.println(sentences + " sentences, " + answers + " answers, " + wrong + " wrong");
    if (wrong != 0) {
      System.exit(1);
    }
  }
}
