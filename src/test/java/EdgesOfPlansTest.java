import java.util.Arrays;

/** The boundary cases that the document names in part IV of its terms and in promises 27 to 33, a sentence at a time. */
public final class EdgesOfPlansTest {
  private static final int MIN = Edges.MIN;
  private static final int MAX = Edges.MAX;
  private static final Edges DOC = new Edges();

  public static void main(String[] args) {
    outermost();
    lowToHigh();
    notBelowLeast();
    partsAtMost();
    hoursAndWorth();
    broughtOnce();
    planByHours();
    likeSets();
    imageAndTape();
    length();
    part();
    fetch();
    plan();
    image();
    back();
    about();
    calls();
    DOC.close();
  }

  private static void isLength(int outer, int low, int high, int least, int due, int dueGreatest) {
    CharredRoll x = new CharredRoll(3, 4);
    String told = outer + ", " + low + ", " + high + ", " + least;
    DOC.is("the least by " + told, x.length(outer, low, high, least, false), due);
    DOC.is("the greatest by " + told, x.length(outer, low, high, least, true), dueGreatest);
  }

  private static void outermost() {
    DOC.says("Terms IV", "the outermost TURN that is left (1 .. 9999)");
    isLength(1, 1, 1, 1, 1, 1);
    isLength(9999, 999, 999, 9999, 9999, 9999);
    isLength(0, 1, 1, 1, -1, -1);
    isLength(10000, 1, 1, 1, -1, -1);
    isLength(0, 1, 1, 0, -1, -1);
  }

  private static void lowToHigh() {
    DOC.says("Terms IV", "each TURN within is shorter by from LOW to HIGH (1 .. 999)");
    isLength(1000, 1, 999, 1, 1001, 500500);
    isLength(1000, 999, 999, 1, 1001, 1001);
    isLength(1000, 1, 1, 1, 500500, 500500);
    isLength(1000, 0, 999, 1, -1, -1);
    isLength(1000, 1, 1000, 1, -1, -1);
    isLength(1000, 0, 0, 1, -1, -1);
    isLength(1000, 1000, 1000, 1, -1, -1);
  }

  private static void notBelowLeast() {
    DOC.says("Terms IV", "the innermost not below LEAST (1 .. 9999)");
    isLength(100, 10, 30, 100, 100, 100);
    isLength(100, 10, 30, 91, 100, 100);
    isLength(100, 10, 30, 90, 100, 190);
    isLength(100, 10, 30, 71, 100, 100 + 90 + 80);
    isLength(100, 10, 30, 70, 170, 100 + 90 + 80 + 70);
    isLength(100, 10, 30, 1, 100 + 70 + 40 + 10, 550);
    isLength(100, 10, 30, 11, 100 + 70 + 40, 540);
    isLength(100, 10, 30, 10, 100 + 70 + 40 + 10, 550);
    isLength(9999, 1, 999, 9999, 9999, 9999);
    isLength(9999, 1, 999, 9998, 9999, 9999 + 9998);
    // 9999 and each 999 shorter down to 9; and all from 9999 down to 1.
    isLength(9999, 1, 999, 1, 55044, 49995000);
    isLength(9999, 1, 999, 9, 55044, 49995000 - 36);
    isLength(9999, 1, 999, 10, 55035, 49995000 - 45);
    isLength(100, 10, 30, 0, -1, -1);
    isLength(100, 10, 30, 101, -1, -1);
    isLength(9999, 1, 1, 10000, -1, -1);
  }

  private static CharredRoll sixteenParts() {
    CharredRoll x = Rolls.some();
    for (int i = 3; i < 16; i++) {
      x.part(i, 20 * i, i % 4);
    }
    return x;
  }

  private static void partsAtMost() {
    DOC.says("Terms IV", "PARTS (16 at most) to be seen at a ring");
    CharredRoll x = new CharredRoll(3, 4);
    DOC.is("none", x.plan(400, 0), 0);
    for (int i = 0; i < 16; i++) {
      DOC.is("a part", x.part(1, 999, i % 4), i + 1);
      DOC.is("all are seen", x.plan(400, 0), (1 << i + 1) - 1);
    }
    DOC.is("a seventeenth", x.part(1, 999, 0), -1);
    DOC.is("all sixteen", x.plan(400, 0), 65535);
    DOC.is("the worth of sixteen", x.plan(400, 1), 16 * 999);
    DOC.is("their hours", x.plan(400, 2), 16);
    DOC.is("sixteen", x.about(8), 16);
  }

  private static void hoursAndWorth() {
    DOC.says("Terms IV", "HOURS (1 .. 50), WORTH (1 .. 999), a ROLL (0 .. 3)");
    CharredRoll x = new CharredRoll(3, 4);
    DOC.is("the least of all", x.part(1, 1, 0), 1);
    DOC.is("its worth", x.plan(1, 1), 1);
    DOC.is("its hours", x.plan(1, 2), 1);
    DOC.is("the greatest of all", x.part(50, 999, 3), 2);
    DOC.is("one short", x.plan(49, 1), 1);
    DOC.is("its worth", x.plan(50, 1), 999);
    DOC.is("its hours", x.plan(50, 2), 50);
    DOC.is("both", x.plan(51, 1), 1000);
    int[][] bad = {{0, 1, 0}, {51, 1, 0}, {1, 0, 0}, {1, 1000, 0}, {1, 1, -1}, {1, 1, 4}};
    for (int[] b : bad) {
      DOC.is("part " + Arrays.toString(b), x.part(b[0], b[1], b[2]), -1);
    }
    DOC.is("two", x.about(8), 2);
    CharredRoll y = new CharredRoll(3, 4);
    for (int i = 0; i < 16; i++) {
      y.part(50, 999, i / 4);
    }
    DOC.is("eight of the greatest", y.plan(400, 0), 255);
    DOC.is("their worth", y.plan(400, 1), 8 * 999);
    DOC.is("seven", y.plan(399, 0), 127);
  }

  private static void broughtOnce() {
    DOC.says("Terms IV", "a ROLL (0 .. 3) that is brought once for FETCH (0 .. 50) HOURS if one or more of it are seen");
    for (int roll = 0; roll < 4; roll++) {
      CharredRoll x = new CharredRoll(3, 4);
      x.part(3, 5, roll);
      DOC.is("0 at first", x.plan(3, 1), 5);
      DOC.yes("the greatest", x.fetch(roll, 50));
      DOC.is("one short", x.plan(52, 1), 0);
      DOC.is("its hours with it", x.plan(53, 2), 53);
      x.part(4, 5, roll);
      DOC.is("one short of both", x.plan(56, 0), 1);
      DOC.is("both for one", x.plan(57, 0), 3);
      DOC.is("both for one", x.plan(57, 2), 57);
      x.part(4, 5, (roll + 1) % 4);
      DOC.is("another roll isn't fetched by it", x.plan(4, 0), 4);
      DOC.is("another roll isn't fetched by it", x.plan(61, 0), 7);
      DOC.yes("nothing", x.fetch(roll, 0));
      DOC.is("all for nothing more", x.plan(11, 0), 7);
      DOC.no("below", x.fetch(roll, -1));
      DOC.no("above", x.fetch(roll, 51));
      DOC.is("as it was", x.plan(11, 0), 7);
    }
    CharredRoll none = new CharredRoll(3, 4);
    for (int roll = 0; roll < 4; roll++) {
      none.fetch(roll, 50);
    }
    DOC.is("nothing is brought for no part", none.plan(400, 2), 0);
    for (int roll = 0; roll < 4; roll++) {
      none.part(50, 1, roll);
    }
    DOC.is("all four in all the hours", none.plan(400, 2), 400);
    DOC.is("all four", none.plan(400, 0), 15);
    DOC.is("three", none.plan(399, 0), 7);
  }

  private static void planByHours() {
    DOC.says("Terms IV", "PLAN by H HOURS (0 .. 400): the set of PARTS with the greatest WORTH");
    CharredRoll x = new CharredRoll(3, 4);
    x.part(1, 1, 0);
    for (int what = 0; what < 3; what++) {
      DOC.is("no hours", x.plan(0, what), 0);
      DOC.is("below", x.plan(-1, what), -1);
      DOC.is("above", x.plan(401, what), -1);
      DOC.is("all hours", x.plan(400, what), 1);
    }
    CharredRoll y = new CharredRoll(3, 4);
    for (int i = 0; i < 8; i++) {
      y.part(50, 1 + i, 0);
    }
    for (int n = 0; n <= 8; n++) {
      int set = 256 - (1 << 8 - n);
      DOC.is(n + " of them", y.plan(50 * n, 0), set);
      DOC.is("an hour short", n == 0 ? 0 : y.plan(50 * n - 1, 0), n == 0 ? 0 : 256 - (1 << 9 - n));
    }
  }

  private static void likeSets() {
    DOC.says("Terms IV", "of like ones of fewest HOURS, then the lowest (bits)");
    CharredRoll x = new CharredRoll(3, 4);
    x.part(5, 6, 0);
    x.part(4, 6, 0);
    DOC.is("of fewest hours", x.plan(8, 0), 2);
    DOC.is("of fewest hours", x.plan(8, 2), 4);
    x.part(4, 6, 1);
    DOC.is("then the lowest", x.plan(7, 0), 2);
    x.part(2, 3, 2);
    x.part(2, 3, 3);
    DOC.is("then the lowest", x.plan(4, 0), 2);
    x.fetch(0, 1);
    DOC.is("an hour more by its roll", x.plan(5, 0), 4);
    DOC.is("an hour more by its roll", x.plan(5, 2), 4);
    x.fetch(1, 1);
    DOC.is("two parts as well", x.plan(5, 0), 24);
    x.fetch(2, 1);
    DOC.is("the lowest of three", x.plan(5, 0), 2);
    CharredRoll y = new CharredRoll(3, 4);
    for (int i = 0; i < 16; i++) {
      y.part(25, 7, i % 4);
    }
    DOC.is("the lowest of many", y.plan(400, 0), 65535);
    DOC.is("the lowest of many", y.plan(399, 0), 32767);
    DOC.is("the lowest of many", y.plan(25, 0), 1);
    y.fetch(0, 25);
    DOC.is("the lowest of many but a roll", y.plan(300, 0), 0b1110111011101110);
  }

  private static void imageAndTape() {
    DOC.says("Terms IV", "AN IMAGE: all as it is, but the tape and the latest FAULT");
    CharredRoll x = new CharredRoll(3, 4);
    Rolls.read(x, "?");
    Rolls.tape(x, "ink 1=1;");
    x.image();
    Rolls.read(x, "ink 10000=1;");
    Rolls.tape(x, "ink 1");
    x.back();
    DOC.is("the tape is as before", x.about(9), 5);
    DOC.is("the latest fault is as before", x.fault(0), 2);
    DOC.is("the latest fault is as before", x.fault(1), 4);
    DOC.is("the tape is as before", x.reader(), -1);
    DOC.is("the tape is as before", x.fault(1), 5);
    CharredRoll y = Rolls.some();
    Rolls.tape(y, " ".repeat(300));
    y.back();
    DOC.is("a full tape", y.about(9), 300);
    y.end(0);
    y.back();
    DOC.is("an empty tape", y.about(9), 0);
  }

  private static void length() {
    DOC.says("Promise 27", "NONE for others (LOW not above HIGH, LEAST not above the outermost)");
    for (boolean greatest : new boolean[] {true, false}) {
      Edges.Call length = (x, a) -> x.length(a[0], a[1], a[2], a[3], greatest);
      DOC.limits("length", Rolls::some, length, -1, new int[] {5000, 500, 600, 2000},
          new int[][] {{2000, 9999}, {1, 600}, {500, 999}, {1, 5000}});
      DOC.limits("length", Rolls::some, length, -1, new int[] {9999, 1, 999, 1},
          new int[][] {{1, 9999}, {1, 999}, {1, 999}, {1, 9999}});
    }
    isLength(10, 3, 3, 10, 10, 10);
    isLength(10, 4, 3, 10, -1, -1);
    isLength(10, 3, 3, 11, -1, -1);
  }

  private static void part() {
    DOC.says("Promise 28", "A PART: how many there are. NONE for others");
    DOC.limits("part", Rolls::some, (x, a) -> x.part(a[0], a[1], a[2]), -1, new int[] {1, 999, 0},
        new int[][] {{1, 50}, {1, 999}, {0, 3}});
    DOC.is("the same once more", Rolls.some().part(3, 9, 3), 4);
    DOC.says("Promise 28", "or if there are 16");
    DOC.is("sixteen", sixteenParts().about(8), 16);
    DOC.refuses("part", EdgesOfPlansTest::sixteenParts, (x, a) -> x.part(a[0], a[1], a[2]), -1, 1, 999, 0);
    DOC.refuses("part", EdgesOfPlansTest::sixteenParts, (x, a) -> x.part(a[0], a[1], a[2]), -1, 50, 1, 3);
    CharredRoll x = sixteenParts();
    x.back();
    DOC.is("with fewer there is room", x.part(1, 1, 0), 3);
  }

  private static void fetch() {
    DOC.says("Promise 29", "FETCH of a ROLL: true. False for others");
    DOC.limits("fetch", Rolls::some, (x, a) -> Edges.num(x.fetch(a[0], a[1])), 0, new int[] {1, 3},
        new int[][] {{0, 3}, {0, 50}});
  }

  private static void plan() {
    DOC.says("Promise 30", "PLAN: 0 the set, 1 WORTH, 2 HOURS. NONE for others");
    DOC.limits("plan", Rolls::some, (x, a) -> x.plan(a[0], a[1]), -1, new int[] {10, 1}, new int[][] {{0, 400}, {0, 2}});
    DOC.limits("plan", () -> new CharredRoll(3, 4), (x, a) -> x.plan(a[0], a[1]), -1, new int[] {10, 1},
        new int[][] {{0, 400}, {0, 2}});
    CharredRoll x = sixteenParts();
    int least = x.plan(5, 0);
    x.plan(400, 0);
    DOC.is("a plan leaves nothing to the next", x.plan(5, 0), least);
  }

  private static void image() {
    DOC.says("Promise 31", "THE IMAGE is as all is now: how many BITS there are");
    DOC.is("none", new CharredRoll(3, 4).image(), 0);
    CharredRoll x = new CharredRoll(6, 12);
    for (int i = 0; i < 60; i++) {
      x.bit(i % 6, i / 6, true, 0);
    }
    DOC.is("sixty", x.image(), 60);
    x.bit(0, 0, false, 3);
    DOC.is("sixty", x.image(), 60);
    CharredRoll y = Rolls.some();
    DOC.is("four", y.image(), 4);
    y.back();
    DOC.yes("an image changes nothing else", Arrays.equals(Rolls.held(y), Rolls.held(Rolls.some())));
    y.grey(0, 0, 0, 9, 9);
    y.back();
    DOC.yes("and is what it was made of", Arrays.equals(Rolls.held(y), Rolls.held(Rolls.some())));
  }

  /** All rows as full as they may be. */
  private static CharredRoll full() {
    CharredRoll x = new CharredRoll(3, 4);
    for (int i = 0; i < 4; i++) {
      Rolls.read(x, "ink crack>" + i + " or radius=" + i + ";");
      x.learnt(i, 15 - i);
    }
    for (int i = 0; i < 12; i++) {
      x.letter(i * 37, i + 1);
    }
    for (int i = 0; i < 12; i++) {
      x.word(i, 11 - i, i % 2 - 1, i + 1);
    }
    for (int i = 0; i < 16; i++) {
      x.part(i + 1, 10 * i + 1, i % 4);
    }
    for (int i = 0; i < 30; i++) {
      x.step(i % 4);
    }
    for (int i = 0; i < 20; i++) {
      x.pin(i % 6, 6 + i / 6, i % 4);
    }
    for (int i = 0; i < 60; i++) {
      x.bit(i % 6, i / 6, i % 5 == 0, i % 4);
    }
    return x;
  }

  /** Changes of all that can be changed where every row is full. */
  private static void changeAll(CharredRoll x) {
    for (int slice = 0; slice < 6; slice++) {
      x.wound(slice, 4 - x.about(10 + slice) % 4);
      x.grey(slice, 0, 1, 9, 9);
      x.column(slice, 1, 8642);
    }
    int steps = x.unwalk();
    for (int i = 0; i < steps; i++) {
      x.step(3);
    }
    x.jump(0);
    x.learnt(0, 1);
    x.learnt(1, 2);
    x.bit(0, 0, false, 0);
    x.bit(1, 1, true, 0);
    x.chances(1, 3);
    for (int roll = 0; roll < 4; roll++) {
      x.fetch(roll, 3 + roll);
    }
    Rolls.tape(x, "ink 10000=1;");
  }

  private static void back() {
    DOC.says("Promise 32", "BACK to THE IMAGE (it stays): how many BITS there are");
    CharredRoll x = full();
    int[] counts = {4, 20, 30, 60, 12, 12, 16};
    for (int i = 0; i < counts.length; i++) {
      DOC.is("about(" + (2 + i) + ") of a full one", x.about(2 + i), counts[i]);
    }
    DOC.is("back to an empty one", x.back(), 0);
    for (int i = 0; i < counts.length; i++) {
      DOC.is("about(" + (2 + i) + ") of an empty one", x.about(2 + i), 0);
    }
    DOC.yes("as a new one", Arrays.equals(Rolls.held(x), Rolls.held(new CharredRoll(3, 4))));
    CharredRoll y = full();
    y.image();
    changeAll(y);
    DOC.is("back to a full one", y.back(), 60);
    DOC.yes("as a full one", Arrays.equals(Rolls.held(y), Rolls.held(full())));
    CharredRoll asked = Rolls.some();
    asked.image();
    changeAll(asked);
    asked.best(0, 0);
    asked.best(5, 0);
    DOC.is("what was asked meanwhile doesn't matter", asked.back(), 4);
    DOC.yes("as it was", Arrays.equals(Rolls.held(asked), Rolls.held(Rolls.some())));
    CharredRoll z = Rolls.some();
    for (int i = 0; i < 3; i++) {
      DOC.is("the image stays", z.back(), 2);
      z.bit(5, i, true, 1);
      z.pin(5, i, 1);
      z.wound(5, 1);
      z.unwalk();
      DOC.is("one bit more", z.about(5), 3);
    }
    DOC.is("the image stays", z.back(), 2);
    DOC.is("its steps", z.about(4), 2);
    DOC.is("its pins", z.about(3), 1);
    DOC.is("its turns", z.about(15), 4);
  }

  private static void about() {
    DOC.says("Promise 33", "0 A, 1 R, 2 READERS, 3 PINS, 4 steps of THE WALK, 5 BITS, 6 LETTERS, 7 WORDS, 8 PARTS, "
        + "9 bytes of the tape");
    CharredRoll x = full();
    Rolls.tape(x, " ".repeat(300));
    int[] due = {3, 4, 4, 20, 30, 60, 12, 12, 16, 300};
    for (int what = 0; what < 10; what++) {
      DOC.is("about(" + what + ") of a full one", x.about(what), due[what]);
      DOC.is("about(" + what + ") of a new one", new CharredRoll(6, 12).about(what), what == 0 ? 6 : what == 1 ? 12 : 0);
    }
    DOC.is("below", x.about(-1), -1);
    DOC.says("Promise 33", "10 + slice: TURNS");
    for (int slice = 0; slice < 6; slice++) {
      x.wound(slice, 1 + slice % 4);
      DOC.is("slice " + slice, x.about(10 + slice), 1 + slice % 4);
    }
    DOC.is("one above", x.about(16), -1);
    DOC.says("Promise 33", "20 + reader: GROUPS it learnt from");
    DOC.is("one below", x.about(19), -1);
    for (int reader = 0; reader < 4; reader++) {
      DOC.is("reader " + reader, x.about(20 + reader), 15 - reader);
    }
    DOC.is("one above", x.about(24), -1);
    CharredRoll y = new CharredRoll(3, 4);
    for (int reader = 0; reader < 4; reader++) {
      DOC.is("a reader that isn't there", y.about(20 + reader), -1);
      y.reader();
      DOC.is("one that learnt nothing", y.about(20 + reader), 0);
    }
    DOC.says("Promise 33", "NONE for others");
    for (int what : new int[] {-1, 16, 17, 18, 19, 24, 25, 30, 100, MIN, MIN + 10, MIN + 20, MAX}) {
      DOC.is("about(" + what + ")", x.about(what), -1);
    }
  }

  private static void calls() {
    DOC.says("What it is", "An object is used for at most 512 calls after it has been made");
    CharredRoll x = new CharredRoll(6, 12);
    for (int i = 1; i < 512; i++) {
      DOC.yes("call " + i, x.grey(i % 6, i / 6 % 6, i / 36 % 12, i % 10, 0));
    }
    DOC.yes("the 512th call", x.best(5, 0) > 0);
  }
}
