import java.util.Arrays;

/** Each promise with answers worked out by hand: ordinary inputs, the edges that are named, wrong inputs. */
public final class PromisesTest {
  private static final int MIN = Integer.MIN_VALUE;
  private static final int MAX = Integer.MAX_VALUE;
  private static int wrong = 0;
  private static int asked = 0;
  private static int promise = 0;

  public static void main(String[] args) {
    newObject();
    grey();
    column();
    wound();
    pin();
    best();
    stepAndUnwalk();
    jump();
    walked();
    flat();
    feed();
    end();
    reader();
    fault();
    ink();
    bit();
    learnt();
    right();
    letter();
    word();
    chances();
    box();
    joined();
    seen();
    printed();
    length();
    part();
    fetch();
    plan();
    image();
    back();
    about();
    System.out.println(asked + " answers, " + wrong + " wrong");
    if (wrong != 0) {
      System.exit(1);
    }
  }

  private static void is(String what, long got, long due) {
    asked++;
    if (got != due) {
      wrong++;
      System.out.println("promise " + promise + ": " + what + " answered " + got + ", due is " + due);
    }
  }

  private static void yes(String what, boolean got) {
    is(what, got ? 1 : 0, 1);
  }

  private static void no(String what, boolean got) {
    is(what, got ? 1 : 0, 0);
  }

  private static void newObject() {
    promise = 1;
    int[][] sizes = {{2, 3, 3, 4}, {3, 4, 3, 4}, {4, 7, 4, 7}, {6, 12, 6, 12}, {7, 13, 6, 12}, {MIN, MAX, 3, 12},
        {MAX, MIN, 6, 4}, {0, 0, 3, 4}, {-1, -1, 3, 4}};
    for (int[] s : sizes) {
      CharredRoll x = new CharredRoll(s[0], s[1]);
      is("A of " + Arrays.toString(s), x.about(0), s[2]);
      is("R of " + Arrays.toString(s), x.about(1), s[3]);
      yes("last angle and radius", x.grey(0, s[2] - 1, s[3] - 1, 1, 1));
      no("angle too far", x.grey(0, s[2], 0, 1, 1));
      no("radius too far", x.grey(0, 0, s[3], 1, 1));
    }
    CharredRoll x = new CharredRoll(3, 4);
    for (int i = 2; i < 10; i++) {
      is("about(" + i + ") at first", x.about(i), 0);
    }
    for (int i = 10; i < 16; i++) {
      is("turns at first", x.about(i), 2);
    }
    is("grey at first", x.best(3, 0), 0);
    is("no text was read", x.fault(0), -1);
    x.wound(0, 4);
    x.bit(0, 0, true, 0);
    is("the image is the new one", x.back(), 0);
    is("turns of the image", x.about(10), 2);
    is("NONE", CharredRoll.NONE, -1);
  }

  private static void grey() {
    promise = 2;
    CharredRoll x = new CharredRoll(3, 4);
    x.wound(0, 1);
    yes("grey", x.grey(0, 0, 1, 7, 3));
    is("fit", x.best(0, 0), 7);
    is("reader", Rolls.read(x, "ink crack=3;"), 0);
    is("crack", x.ink(0, 0, 0), 1);
    int[][] bad = {{-1, 0, 1, 9, 9}, {6, 0, 1, 9, 9}, {0, -1, 1, 9, 9}, {0, 3, 1, 9, 9}, {0, 0, -1, 9, 9},
        {0, 0, 4, 9, 9}, {0, 0, 1, -1, 9}, {0, 0, 1, 10, 9}, {0, 0, 1, 9, -1}, {0, 0, 1, 9, 10}, {MIN, MIN, MIN, MIN, MIN},
        {MAX, MAX, MAX, MAX, MAX}};
    for (int[] b : bad) {
      no("grey " + Arrays.toString(b), x.grey(b[0], b[1], b[2], b[3], b[4]));
      is("fit as it was", x.best(0, 0), 7);
      is("crack as it was", x.ink(0, 0, 0), 1);
    }
    yes("all at the top", x.grey(5, 2, 3, 9, 9));
    x.wound(5, 1);
    is("fit", x.best(5, 0), 9);
    is("where", x.best(5, 102), 3);
    yes("all at the bottom", x.grey(0, 0, 0, 0, 0));
    yes("told anew", x.grey(0, 0, 1, 0, 0));
    is("fit is nothing", x.best(0, 0), 0);
    is("crack is nothing", x.ink(0, 0, 0), 0);
  }

  private static void column() {
    promise = 3;
    CharredRoll x = new CharredRoll(3, 4);
    x.wound(0, 1);
    x.grey(0, 0, 3, 0, 6);
    yes("column", x.column(0, 0, 4321));
    is("the highest digit is the highest radius", x.best(0, 0), 4);
    is("where", x.best(0, 100), 3);
    Rolls.read(x, "ink crack=6;");
    is("crack as it is", x.ink(0, 0, 0), 1);
    no("five digits", x.column(0, 0, 10000));
    no("below 0", x.column(0, 0, -1));
    no("far below", x.column(0, 0, Long.MIN_VALUE));
    no("far above", x.column(0, 0, Long.MAX_VALUE));
    no("beyond an int", x.column(0, 0, 1L << 32));
    no("no slice", x.column(6, 0, 1));
    no("no slice below", x.column(-1, 0, 1));
    no("no angle", x.column(0, 3, 1));
    no("no angle below", x.column(0, -1, 1));
    is("nothing was changed", x.best(0, 0), 4);
    yes("the greatest", x.column(0, 0, 9999));
    is("nines", x.best(0, 0), 9);
    yes("one digit", x.column(0, 0, 5));
    is("the lowest digit is the lowest radius", x.best(0, 100), 0);
    is("the others are 0", x.best(0, 1), 5);
    yes("nothing", x.column(0, 0, 0));
    is("all alike", x.best(0, 1), 26);
    CharredRoll y = new CharredRoll(6, 12);
    y.wound(5, 1);
    yes("twelve digits", y.column(5, 5, 900000000000L));
    is("the twelfth", y.best(5, 105), 11);
    no("thirteen digits", y.column(5, 5, 1000000000000L));
    yes("twelve nines", y.column(5, 5, 999999999999L));
  }

  private static void wound() {
    promise = 4;
    CharredRoll x = new CharredRoll(3, 4);
    for (int k = 1; k <= 4; k++) {
      yes("wound", x.wound(5, k));
      is("turns", x.about(15), k);
      is("the last place is there", x.best(5, 100 + 3 * k - 1), k - 1);
      is("one more isn't", x.best(5, 100 + 3 * k), -1);
    }
    int[][] bad = {{5, 0}, {5, 5}, {5, MIN}, {5, MAX}, {-1, 1}, {6, 1}, {MIN, 1}, {MAX, 1}};
    for (int[] b : bad) {
      no("wound " + Arrays.toString(b), x.wound(b[0], b[1]));
      is("as it was", x.about(15), 4);
    }
  }

  private static void pin() {
    promise = 5;
    CharredRoll x = new CharredRoll(3, 4);
    is("a pin", x.pin(0, 0, 2), 1);
    is("it holds", x.best(0, 100), 2);
    is("there is one already", x.pin(0, 0, 2), -1);
    is("there is one already", x.pin(0, 0, 3), -1);
    is("the same place elsewhere", x.pin(1, 0, 1), 2);
    is("a place that isn't there yet", x.pin(0, 11, 0), 3);
    is("doesn't count yet", x.best(0, 100), 2);
    x.wound(0, 4);
    is("now it does", x.best(0, 0), -1);
    int[][] bad = {{-1, 1, 1}, {6, 1, 1}, {0, -1, 1}, {0, 12, 1}, {0, 1, -1}, {0, 1, 4}, {MIN, 1, 1}, {MAX, 1, 1},
        {0, MIN, 1}, {0, MAX, 1}, {0, 1, MIN}, {0, 1, MAX}};
    for (int[] b : bad) {
      is("pin " + Arrays.toString(b), x.pin(b[0], b[1], b[2]), -1);
    }
    is("three pins", x.about(3), 3);
    for (int i = 3; i < 20; i++) {
      is("one more", x.pin(2 + i / 12, i % 12, 0), i + 1);
    }
    is("there are 20", x.pin(5, 0, 0), -1);
    is("there are 20", x.about(3), 20);
  }

  private static void best() {
    promise = 6;
    CharredRoll x = new CharredRoll(3, 4);
    x.wound(0, 4);
    for (int angle = 0; angle < 3; angle++) {
      x.column(0, angle, 4321);
    }
    is("four turns in four radii: one way", x.best(0, 1), 1);
    is("its fit", x.best(0, 0), 30);
    for (int place = 0; place < 12; place++) {
      is("radius", x.best(0, 100 + place), place / 3);
      is("sure", x.best(0, 200 + place), 1);
    }
    // A grey that wants radius 1 at angle 1 of one turn: 0 1 0 is the least that has it.
    x.wound(1, 1);
    x.column(1, 1, 50);
    is("fit", x.best(1, 0), 5);
    is("three ways there, three away", x.best(1, 1), 9);
    int[] due = {0, 1, 0};
    for (int place = 0; place < 3; place++) {
      is("radius", x.best(1, 100 + place), due[place]);
      is("sure", x.best(1, 200 + place), due[place]);
    }
    // With two turns place 4 may have it as well, and 0 0 0 1 1 1 does.
    x.wound(1, 2);
    is("fit", x.best(1, 0), 5);
    is("place 1", x.best(1, 101), 0);
    is("place 4", x.best(1, 104), 1);
    is("place 1 isn't sure now", x.best(1, 201), 0);
    is("nor place 4", x.best(1, 204), 0);
    CharredRoll y = new CharredRoll(6, 12);
    y.wound(0, 4);
    is("a million at most is told", y.best(0, 1), 1000000);
    is("and the least of them", y.best(0, 123), 3);
    y.wound(0, 1);
    // Paths of six places on twelve radii: 12, 34, 98, 284, 826, 2408.
    is("all are counted", y.best(0, 1), 2408);
    y.pin(0, 5, 11);
    y.pin(0, 0, 4);
    is("too steep", y.best(0, 0), -1);
    for (int what : new int[] {0, 1, 100, 105, 200, 205}) {
      is("no spiral", y.best(0, what), -1);
    }
    int[] others = {-1, 2, 99, 106, 112, 199, 212, 300, MIN, MAX, MIN + 100, MIN + 200};
    for (int what : others) {
      is("best(1, " + what + ")", x.best(1, what), -1);
    }
    for (int slice : new int[] {-1, 6, MIN, MAX}) {
      is("best(" + slice + ", 0)", x.best(slice, 0), -1);
    }
  }

  private static void stepAndUnwalk() {
    promise = 7;
    CharredRoll x = new CharredRoll(3, 4);
    for (int radius : new int[] {-1, 4, MIN, MAX}) {
      is("step(" + radius + ")", x.step(radius), -1);
    }
    is("none yet", x.about(4), 0);
    for (int i = 1; i <= 30; i++) {
      is("step", x.step(i % 4), i);
    }
    is("there are 30", x.step(0), -1);
    promise = 8;
    is("thirty", x.unwalk(), 30);
    is("none", x.unwalk(), 0);
    is("none", x.about(4), 0);
    is("one again", x.step(3), 1);
  }

  private static void jump() {
    promise = 9;
    CharredRoll x = new CharredRoll(3, 4);
    for (int i = 0; i < 8; i++) {
      x.step(i < 3 ? 0 : 1);
    }
    is("5 at first", x.walked(0, 0, 0), 5);
    yes("jump", x.jump(7));
    is("7", x.walked(0, 0, 0), 7);
    for (int cost : new int[] {-1, 100, MIN, MAX}) {
      no("jump(" + cost + ")", x.jump(cost));
      is("as it was", x.walked(0, 0, 0), 7);
    }
    yes("the greatest", x.jump(99));
    is("two places that aren't there are cheaper", x.walked(0, 0, 0), 18);
    yes("the least", x.jump(0));
    is("nothing", x.walked(0, 0, 0), 0);
  }

  private static void walked() {
    promise = 10;
    CharredRoll x = new CharredRoll(3, 4);
    is("an empty walk", x.walked(0, 0, 0), -1000);
    // THE BEST is 0 0 0 1 1 1. The walk runs out of places, so behind step 5 it goes over to the turn within.
    for (int i = 0; i < 8; i++) {
      x.step(i < 3 ? 0 : 1);
    }
    is("cost", x.walked(0, 0, 0), 5);
    is("changes", x.walked(0, 0, 1), 1);
    int[] places = {0, 1, 2, 3, 4, 5, 3, 4};
    for (int i = 0; i < 8; i++) {
      is("place of step " + i, x.walked(0, 0, 100 + i), places[i]);
    }
    x.jump(99);
    is("no such place", x.walked(0, 0, 106), -1000);
    is("no changes", x.walked(0, 0, 1), 0);
    // From place 1 with a jump for nothing: 1 would do for step 0, but it belongs where it is told.
    x.jump(0);
    x.unwalk();
    x.step(1);
    x.step(0);
    x.step(0);
    is("the first step stays", x.walked(0, 1, 0), 1);
    is("the first step stays", x.walked(0, 1, 100), 1);
    is("step 1", x.walked(0, 1, 101), 2);
    is("step 2 goes back a turn", x.walked(0, 1, 102), 0);
    // Like costs: 4 - 3 and 4 + 0 have radii as far from the walk's; the lesser s is taken.
    x.unwalk();
    for (int slice = 1; slice < 2; slice++) {
      for (int angle = 0; angle < 3; angle++) {
        x.column(slice, angle, 101);
      }
    }
    x.pin(1, 3, 2);
    is("0 by pins", x.pin(1, 0, 0), 2);
    x.pin(1, 1, 0);
    x.pin(1, 2, 1);
    x.pin(1, 4, 2);
    is("best at 4", x.best(1, 104), 2);
    x.step(2);
    x.step(1);
    is("like ones", x.walked(1, 3, 0), 1);
    is("the lesser s", x.walked(1, 3, 101), 1);
    x.jump(1);
    is("a jump isn't worth it", x.walked(1, 3, 101), 4);
    int[][] bad = {{-1, 0, 0}, {6, 0, 0}, {MIN, 0, 0}, {1, -1, 0}, {1, 6, 0}, {1, MAX, 0}, {1, MIN, 0}, {1, 0, -1},
        {1, 0, 2}, {1, 0, 99}, {1, 0, 102}, {1, 0, MIN}, {1, 0, MAX}};
    for (int[] b : bad) {
      is("walked " + Arrays.toString(b), x.walked(b[0], b[1], b[2]), -1000);
    }
    x.pin(2, 0, 0);
    x.pin(2, 1, 3);
    is("without spirals", x.walked(2, 0, 0), -1000);
    longWalk();
  }

  private static void longWalk() {
    CharredRoll x = new CharredRoll(3, 4);
    for (int i = 0; i < 30; i++) {
      x.step(i % 6 / 3);
    }
    // Five rounds of the two turns: four times two turns back, a jump for each turn, and between the two jumps one
    // step on the turn that it doesn't belong to.
    is("thirty steps", x.walked(0, 0, 0), 44);
    is("eight changes", x.walked(0, 0, 1), 8);
    is("a place", x.walked(0, 0, 129) >= 0 ? 1 : 0, 1);
    x.jump(99);
    is("24 steps outside", x.walked(0, 0, 0), 9 * 24);
    x.jump(0);
    is("the last place that can be", x.walked(0, 5, 0) >= 0 ? 1 : 0, 1);
  }

  private static void flat() {
    promise = 11;
    CharredRoll x = new CharredRoll(3, 4);
    x.pin(0, 0, 2);
    // At place 0 radii 2 0 0 0 0 0, lengths 3 1 1 1 1 1.
    is("width", x.flat(2, 0, 0), 1);
    is("stretch", x.flat(2, 0, 1), 2);
    is("slice 0 goes 2 1 2 3 2 3", x.best(0, 101), 1);
    is("stretch at 1", x.flat(2, 1, 1), 1);
    is("together", x.flat(2, 1, 2), 3);
    // Slice 0 at 0 .. 4: 2 1 2 3 2 against 0 0 0 1 1.
    is("together to the last", x.flat(2, 4, 2), 8);
    x.wound(1, 3);
    x.wound(0, 3);
    is("slice 0 has three turns no more", x.best(0, 0), -1);
    is("then none", x.flat(3, 0, 0), -1);
    is("nor with fewer turns", x.flat(1, 0, 0), -1);
    x.wound(0, 1);
    is("slice 0 aside", x.flat(2, 0, 1), 0);
    is("slice 0 too", x.flat(1, 0, 1), 2);
    is("slice 1 alone", x.flat(3, 7, 0), 3);
    is("none has four", x.flat(4, 0, 0), -1);
    x.pin(2, 0, 2);
    x.pin(3, 0, 2);
    x.wound(1, 2);
    // Lengths at 0 (slice 0 has one turn): 1 3 3 1 1; then with slice 0: 3 1 3 3 1 1.
    is("more of the lesser", x.flat(2, 0, 0), 1);
    is("stretch", x.flat(2, 0, 1), 4);
    is("as many of both: the least", x.flat(1, 0, 0), 1);
    is("stretch", x.flat(1, 0, 1), 6);
    int[][] bad = {{0, 0, 0}, {5, 0, 0}, {MIN, 0, 0}, {MAX, 0, 0}, {2, -1, 0}, {2, 5, 0}, {1, 2, 0}, {2, MAX, 0},
        {2, 0, -1}, {2, 0, 3}, {2, 0, MIN}};
    for (int[] b : bad) {
      is("flat " + Arrays.toString(b), x.flat(b[0], b[1], b[2]), -1);
    }
  }

  private static void feed() {
    promise = 12;
    CharredRoll x = new CharredRoll(3, 4);
    for (int i = 1; i <= 15; i++) {
      is("feed", x.feed(MIN, -1, 0, MAX, i), 20 * i);
    }
    is("full", x.feed(0, 0, 0, 0, 0), -1);
    is("none came", x.about(9), 300);
    x.end(281);
    is("no room for twenty", x.feed(0, 0, 0, 0, 0), -1);
    is("none came", x.about(9), 281);
    x.end(280);
    is("room for twenty", x.feed(0, 0, 0, 0, 0), 300);
    x.end(0);
    // "ink ", "1=1;", blanks: the highest byte of a first.
    x.feed(0x696e6b20, 0x313d313b, 0x20202020, 0x0a0a0a0a, 0x20202020);
    is("it is read so", x.reader(), 0);
    x.feed(0x206b6e69, 0, 0, 0, 0);
    x.end(4);
    is("not from behind", x.reader(), -1);
  }

  private static void end() {
    promise = 13;
    CharredRoll x = new CharredRoll(3, 4);
    is("nothing", x.end(0), 0);
    is("not so many", x.end(1), -1);
    x.feed(0, 0, 0, 0, 0);
    is("all", x.end(20), 20);
    for (int n : new int[] {21, -1, MIN, MAX}) {
      is("end(" + n + ")", x.end(n), -1);
      is("nothing is done", x.about(9), 20);
    }
    is("some", x.end(7), 7);
    is("they are gone", x.end(8), -1);
    is("feed goes on there", x.feed(0, 0, 0, 0, 0), 27);
  }

  private static void reader() {
    promise = 14;
    CharredRoll x = new CharredRoll(3, 4);
    is("an empty text", x.reader(), 0);
    x.learnt(0, 15);
    is("a text", Rolls.read(x, "ink 1=1;"), 1);
    is("the tape is empty then", x.about(9), 0);
    is("it learnt nothing", x.about(21), 0);
    is("a fault", Rolls.read(x, "ink 1=1"), -1);
    is("the tape is empty then too", x.about(9), 0);
    is("no reader more", x.about(2), 2);
    is("another", Rolls.read(x, "bare 1=1;"), 2);
    is("blanks", Rolls.read(x, " \n \n"), 3);
    Rolls.tape(x, "ink 1=1");
    is("there are 4", x.reader(), -1);
    is("the tape stays", x.about(9), 7);
    is("the text was not read", x.fault(0), 0);
    is("four", x.about(2), 4);
    x.back();
    is("none", x.about(2), 0);
    is("the tape is still there", x.reader(), -1);
    is("and was read", x.fault(1), 7);
  }

  private static void fault() {
    promise = 15;
    CharredRoll x = new CharredRoll(3, 4);
    for (int what : new int[] {-1, 0, 1, 2}) {
      is("ahead of any", x.fault(what), -1);
    }
    String ten = "ink 1=1;".repeat(10);
    String nots = "not ".repeat(8);
    Object[][] texts = {
        {"", 0, -1}, {" \n", 0, -1}, {"ink 1=1;", 0, -1}, {"ink 1=1", 1, 7}, {"ink 1=1 ", 1, 8}, {"ink", 1, 3},
        {"INK 1=1;", 1, 0}, {"Ink 1=1;", 1, 0}, {"inks 1=1;", 1, 0}, {"in 1=1;", 1, 0}, {"dark 1=1;", 1, 0},
        {"ink 1==1;", 1, 6}, {"ink 1<=1;", 0, -1}, {"ink 1>=1;", 0, -1}, {"ink 1< =1;", 1, 7}, {"ink 1=<1;", 1, 6},
        {"ink 1<>1;", 1, 6}, {"ink 1#1;", 0, -1}, {"ink 9999=1;", 0, -1}, {"ink 10000=1;", 2, 4},
        {"ink 09999=1;", 0, -1}, {"ink 010000=1;", 2, 4}, {"ink 1 10000=1;", 1, 6}, {"10000", 1, 0},
        {"ink " + "9".repeat(200) + "=1;", 2, 4}, {"ink " + "0".repeat(200) + "=1;", 0, -1},
        {"ink 4294967296=1;", 2, 4}, {"ink 1=1;x", 1, 8}, {"ink (1=1);", 1, 6}, {"ink ((1))=1;", 0, -1},
        {"ink 1)=1;", 1, 5}, {"ink (1=1;", 1, 6}, {"ink ()=1;", 1, 5}, {"ink (1;", 1, 6}, {"ink 1=1);", 1, 7},
        {"ink not not 1=1;", 0, -1}, {"ink 1=not 1;", 1, 6}, {"ink -not 1=1;", 1, 5}, {"ink (not 1)=1;", 1, 5},
        {"ink 1=1 or 2=2 and not 3=3;", 0, -1}, {"ink 1=1 or;", 1, 10}, {"ink or 1=1;", 1, 4}, {"ink 1 and 1;", 1, 6},
        {"ink 1=1=1;", 1, 7}, {"ink 1;", 1, 5}, {"ink 1+;", 1, 6}, {"ink +1=1;", 1, 4}, {"ink *1=1;", 1, 4},
        {"ink 1--1=1;", 0, -1}, {"ink 1=1;;", 1, 8}, {";", 1, 0}, {"ink\t1=1;", 1, 3}, {"ink\r1=1;", 1, 3},
        {"ink 1=1;" + (char) 0, 1, 8}, {"ink 1=" + (char) 200 + ";", 1, 6}, {"ink grey5=1;", 1, 8},
        {"ink 5grey=1;", 1, 5}, {"ink ingrey=1;", 1, 4}, {"ink gre=1;", 1, 4}, {"ink greyy=1;", 1, 4},
        {"ink Grey=1;", 1, 4}, {"ink ink=1;", 1, 4}, {"ink 1=1 ink 1=1;", 1, 8}, {"ink 1!1;", 1, 5},
        {"ink " + nots + "1=1;", 0, -1}, {"ink " + nots + "not 1=1;", 3, 36}, {"ink " + nots + "(1)=1;", 3, 36},
        {"ink " + nots + "-1=1;", 3, 36}, {"ink " + nots + "1=1 and " + nots + "1=1;", 0, -1},
        {"ink " + nots + "1-1=1;", 0, -1}, {"ink " + nots + "1=-1;", 3, 38}, {"ink --------1=1;", 0, -1},
        {"ink ---------1=1;", 3, 12}, {"ink --------1=--------1;", 0, -1}, {"ink --------1---------1=1;", 0, -1},
        {"ink --------1----------1=1;", 3, 22},
        {"ink ((((((((1))))))))=((((((((1))))))));", 0, -1}, {"ink (((((((((1", 3, 12}, {"bare (((((((((grey", 3, 13},
        {"ink ((((((((1+((((((((1", 3, 14}, {"ink (((((((1)+(((((((((1", 3, 16},
        {"ink not not not not ((--1))=1;", 0, -1}, {"ink not not not not ((---1))=1;", 3, 24},
        {"ink ((((((((1(", 1, 13}, {"ink ((((((((not", 1, 12}, {"ink (((((((((", 3, 12}, {"ink ((((((((", 1, 12},
        {"ink -(-(-(-(1))))=1;", 0, -1}, {"ink -(-(-(-(-1))))=1;", 3, 12}, {"ink 1-1-1-1-1-1-1-1-1-1-1-1=1;", 0, -1},
        {ten, 0, -1}, {ten + " \n", 0, -1}, {ten + "ink", 4, 80}, {ten + " bare", 4, 81}, {ten + "grey", 1, 80},
        {ten + "99999", 1, 80}, {ten + "!", 1, 80}, {"ink 1=1;bare", 1, 12}, {"ink 99999=!", 2, 4}, {"ink !=99999", 1, 4},
    };
    for (int i = 0; i < texts.length; i++) {
      Object[] t = texts[i];
      // Several texts one behind the other, but no more calls than an object is made for.
      if (i % 20 == 0) {
        x = new CharredRoll(3, 4);
      }
      x.back();
      is("reader of " + t[0], Rolls.read(x, (String) t[0]), (Integer) t[1] == 0 ? 0 : -1);
      is("fault of " + t[0], x.fault(0), (Integer) t[1]);
      is("its place in " + t[0], x.fault(1), (Integer) t[2]);
    }
    for (int what : new int[] {-1, 2, MIN, MAX}) {
      is("fault(" + what + ")", x.fault(what), -1);
    }
    Rolls.read(x, "ink !");
    is("back leaves it", x.back(), 0);
    is("fault", x.fault(0), 1);
    is("place", x.fault(1), 4);
  }

  /** Whether a question is answered with yes at a place. */
  private static void so(CharredRoll x, int slice, int place, String question) {
    x.image();
    int reader = Rolls.read(x, "ink " + question + ";");
    is(question + " at " + slice + ", " + place, x.ink(reader, slice, place), 1);
    x.back();
  }

  private static void ink() {
    promise = 16;
    CharredRoll x = new CharredRoll(3, 4);
    x.column(1, 0, 7654);
    x.column(1, 1, 1230);
    x.column(1, 2, 48);
    x.pin(1, 0, 1);
    x.grey(1, 0, 2, 6, 8);
    x.grey(1, 0, 1, 5, 3);
    x.grey(1, 2, 0, 8, 2);
    // THE BEST by the pin: place 0 at 1 (5); then 1 at 1 (3), 2 at 0 (8); 3 at 2 (6)? from 0 it can't: 3 must be 2 and
    // is one from place 2, so place 2 is at 1 (4) or above; 1 1 1 2 2 2: 5+3+4+6+2+0; 1 2 1 2 3 2: 5+2+4+6+1+0.
    is("fit", x.best(1, 0), 20);
    for (int place = 0; place < 6; place++) {
      is("radius at " + place, x.best(1, 100 + place), place < 3 ? 1 : 2);
    }
    so(x, 1, 3, "grey=6 and crack=8 and radius=2 and turn=1 and angle=0 and slice=1");
    so(x, 1, 3, "in=5 and out=7");
    so(x, 1, 0, "in=4 and out=6 and sharp=3 and crack=3");
    so(x, 1, 1, "sharp=0-3 and crack=0 and in=0 and out=2 and angle=1");
    so(x, 1, 3, "sharp=8");
    so(x, 1, 2, "in=8 and out=0 and turn=0 and angle=2");
    so(x, 5, 0, "in=0 and out=0 and slice=5 and radius=0");
    CharredRoll y = new CharredRoll(3, 4);
    y.wound(0, 1);
    y.column(0, 0, 9800);
    is("at the rim", y.best(0, 100), 3);
    so(y, 0, 0, "in=8 and out=0");
    String[] sums = {"7/2=3", "(0-7)/2=0-3", "-7/2=-3", "7/-2=-3", "-7/-2=3", "5/0=0", "0/0=0", "2+3*4=14", "10-4-3=3",
        "2*3/4=1", "6/4*2=2", "100/10/5=2", "-2*3=-6", "-(2+3)*2=-10", "--5=5", "3--2=5", "1-2-3=-4", "-0=0",
        "9999*9999=1000*1000", "9999*9999-1=1000*1000-1", "9999*9999/9999=100", "-9999*9999=0-1000*1000",
        "0-9999*9999-9999*9999=-(1000*1000)", "9999*9999*9999=1000*1000", "1000*1000+1-1=1000*1000-1",
        "-(9999*9999)*-9999=1000*1000", "9999*9999/1000=1000", "-9999*9999/1000=-1000", "1000*1000/1000=1000",
        "(1000*1000+9999)/1000=1000", "(-1000*1000-9999)/1000=-1000", "(1000*999+999)/1000=999", "1<2", "1<=1", "1<=2",
        "2>1", "2>=2", "2>=1", "1#2", "not 1#1", "not 2<2",
        "not 2>2", "not 1>=2", "not 2<=1", "not 1=2", "not not 1=1", "not 1=1 or 2=2", "1=1 or 1=1 and 1=2",
        "1=2 and 1=2 or 1=1", "not 1=2 and 2=2", "1=2 or 1=2 or 1=1", "not (2-1)*0=1",
        "1+1=4/2", "2*(3+4)*5=70", "1=1\nand\n2=2"};
    for (String sum : sums) {
      so(new CharredRoll(3, 4), 0, 1, sum);
    }
    String[] untrue = {"1<1", "2<1", "1>1", "2<=1", "1>=2", "1#1", "1=2", "not 1=1", "1=1 and 1=2", "1=2 or 2=1",
        "not 1=1 and 2=2", "7/2=4", "-7/2=-4", "10-(4-3)=3", "not 1=2 and 1=2"};
    for (String sum : untrue) {
      CharredRoll z = new CharredRoll(3, 4);
      is(sum, z.ink(Rolls.read(z, "ink " + sum + ";"), 0, 1), 0);
    }
    clauses();
  }

  private static void clauses() {
    CharredRoll x = new CharredRoll(3, 4);
    Rolls.read(x, "");
    Rolls.read(x, "ink 1=2;ink radius=1;");
    Rolls.read(x, "bare turn=1;ink angle>0;");
    Rolls.read(x, "ink radius=1;bare angle=2;bare 1=2;");
    int[][] due = {{0, 0, 0, 0, 0, 0}, {0, 0, 0, 1, 1, 1}, {0, 1, 1, 0, 0, 0}, {0, 0, 0, 1, 1, 0}};
    for (int reader = 0; reader < 4; reader++) {
      for (int place = 0; place < 6; place++) {
        is("ink of " + reader + " at " + place, x.ink(reader, 4, place), due[reader][place]);
      }
    }
    int[][] bad = {{-1, 0, 0}, {4, 0, 0}, {MIN, 0, 0}, {MAX, 0, 0}, {0, -1, 0}, {0, 6, 0}, {0, MIN, 0}, {0, MAX, 0},
        {0, 0, -1}, {0, 0, 6}, {0, 0, MIN}, {0, 0, MAX}};
    for (int[] b : bad) {
      is("ink " + Arrays.toString(b), x.ink(b[0], b[1], b[2]), -1);
    }
    x.pin(0, 0, 0);
    x.pin(0, 1, 3);
    is("without spirals", x.ink(1, 0, 0), -1);
    is("elsewhere with", x.ink(1, 1, 0), 0);
    x.wound(1, 4);
    is("a place that is there now", x.ink(3, 1, 11), 0);
    is("of another turn", x.ink(1, 1, 11), 0);
  }

  private static void bit() {
    promise = 17;
    CharredRoll x = new CharredRoll(3, 4);
    is("a bit", x.bit(0, 0, true, 0), 1);
    is("told anew", x.bit(0, 0, false, 3), 1);
    is("another", x.bit(0, 11, true, 3), 2);
    int[][] bad = {{-1, 0, 0}, {6, 0, 0}, {0, -1, 0}, {0, 12, 0}, {0, 1, -1}, {0, 1, 4}, {MIN, 0, 0}, {MAX, 0, 0},
        {0, MIN, 0}, {0, MAX, 0}, {0, 1, MIN}, {0, 1, MAX}};
    for (int[] b : bad) {
      is("bit " + Arrays.toString(b), x.bit(b[0], b[1], true, b[2]), -1);
    }
    int n = 2;
    for (int i = 12; i < 70; i++) {
      n++;
      is("one more", x.bit(i / 12, i % 12, true, i % 4), n);
    }
    is("there are 60", x.bit(0, 5, true, 0), -1);
    is("one of them told anew", x.bit(1, 0, false, 0), 60);
    is("sixty", x.about(5), 60);
  }

  private static void learnt() {
    promise = 18;
    CharredRoll x = new CharredRoll(3, 4);
    no("no reader yet", x.learnt(0, 0));
    Rolls.read(x, "");
    Rolls.read(x, "");
    for (int groups = 0; groups < 16; groups++) {
      yes("learnt", x.learnt(1, groups));
      is("groups", x.about(21), groups);
    }
    int[][] bad = {{1, -1}, {1, 16}, {1, MIN}, {1, MAX}, {-1, 0}, {2, 0}, {MIN, 0}, {MAX, 0}};
    for (int[] b : bad) {
      no("learnt " + Arrays.toString(b), x.learnt(b[0], b[1]));
    }
    is("as it was", x.about(21), 15);
    is("the other", x.about(20), 0);
  }

  private static void right() {
    promise = 19;
    CharredRoll x = new CharredRoll(3, 4);
    Rolls.read(x, "ink angle=1;");
    is("no bits", x.right(0, true, 1), 0);
    x.bit(0, 1, true, 0);
    x.bit(0, 2, true, 0);
    x.bit(1, 0, false, 1);
    x.bit(2, 4, true, 2);
    x.bit(3, 4, false, 3);
    x.bit(3, 6, false, 3);
    is("learnt nothing: right", x.right(0, false, 0), 3);
    is("of", x.right(0, false, 1), 5);
    is("own", x.right(0, true, 0), 0);
    is("of", x.right(0, true, 1), 0);
    x.learnt(0, 9);
    is("own", x.right(0, true, 0), 1);
    is("of", x.right(0, true, 1), 3);
    is("others", x.right(0, false, 0), 2);
    is("of", x.right(0, false, 1), 2);
    x.wound(3, 3);
    is("a place more", x.right(0, true, 1), 4);
    is("and right", x.right(0, true, 0), 2);
    x.bit(0, 2, false, 1);
    is("told anew in another group", x.right(0, false, 0), 3);
    is("of", x.right(0, true, 1), 3);
    x.pin(2, 0, 0);
    x.pin(2, 1, 3);
    is("a place without a spiral is there", x.right(0, false, 1), 3);
    is("but no ink tells it", x.right(0, false, 0), 2);
    int[][] bad = {{-1, 0}, {1, 0}, {MIN, 0}, {MAX, 1}, {0, -1}, {0, 2}, {0, MIN}, {0, MAX}};
    for (int[] b : bad) {
      is("right " + Arrays.toString(b), x.right(b[0], true, b[1]), -1);
      is("right " + Arrays.toString(b), x.right(b[0], false, b[1]), -1);
    }
  }

  private static void letter() {
    promise = 20;
    CharredRoll x = new CharredRoll(3, 4);
    int[][] bad = {{-1, 1}, {512, 1}, {0, 0}, {0, 100}, {MIN, 1}, {MAX, 1}, {0, MIN}, {0, MAX}};
    for (int[] b : bad) {
      is("letter " + Arrays.toString(b), x.letter(b[0], b[1]), -1);
    }
    is("the greatest", x.letter(511, 99), 0);
    is("the least", x.letter(0, 1), 1);
    is("the same once more", x.letter(0, 1), 2);
    for (int i = 3; i < 12; i++) {
      is("one more", x.letter(i, i), i);
    }
    is("there are 12", x.letter(0, 1), -1);
    is("twelve", x.about(6), 12);
  }

  private static void word() {
    promise = 21;
    CharredRoll x = new CharredRoll(3, 4);
    is("no letters", x.word(0, -1, -1, 1), -1);
    x.letter(0, 1);
    x.letter(1, 1);
    int[][] bad = {{-1, -1, -1, 1}, {2, -1, -1, 1}, {0, 2, -1, 1}, {0, -2, -1, 1}, {0, -1, 0, 1}, {0, -1, -2, 1},
        {0, 0, 2, 1}, {0, 0, -2, 1}, {-1, 0, -1, 1}, {-1, 0, 0, 1}, {0, -1, -1, 0}, {0, -1, -1, 100}, {MIN, -1, -1, 1},
        {MAX, -1, -1, 1}, {0, MIN, -1, 1}, {0, 0, MAX, 1}, {0, -1, -1, MIN}};
    for (int[] b : bad) {
      is("word " + Arrays.toString(b), x.word(b[0], b[1], b[2], b[3]), -1);
    }
    is("one letter", x.word(0, -1, -1, 1), 0);
    is("two", x.word(0, 0, -1, 99), 1);
    is("three", x.word(0, 0, 0, 1), 2);
    is("that is there", x.word(0, -1, -1, 2), -1);
    is("that is there", x.word(0, 0, -1, 2), -1);
    is("that is there", x.word(0, 0, 0, 2), -1);
    is("another", x.word(1, -1, -1, 1), 3);
    int n = 4;
    for (int i = 1; i < 8; i++) {
      is("one more", x.word(i & 1, i >> 1 & 1, i >> 2, 1), n);
      n++;
    }
    is("the twelfth", x.word(1, 0, -1, 1), 11);
    is("there are 12", x.word(1, 1, -1, 1), -1);
    is("twelve", x.about(7), 12);
  }

  private static void chances() {
    promise = 22;
    CharredRoll x = Rolls.threeTurns();
    Rolls.read(x, "");
    x.letter(0, 1);
    x.letter(511, 1);
    is("3 and 1 at first", x.box(0, 0, 0, 1), 999);
    yes("chances", x.chances(1, 1));
    is("alike", x.box(0, 0, 0, 1), 500);
    x.word(0, -1, -1, 1);
    is("the least chance that there is", x.joined(0, 0, 0, 1), 1000);
    int[][] bad = {{0, 1}, {4, 1}, {1, 0}, {1, 4}, {MIN, 1}, {1, MAX}};
    for (int[] b : bad) {
      no("chances " + Arrays.toString(b), x.chances(b[0], b[1]));
      is("as it was", x.box(0, 0, 0, 1), 500);
    }
    yes("chances", x.chances(1, 3));
    is("what misses most", x.box(0, 0, 0, 0), 1);
    yes("chances", x.chances(3, 2));
    // 19683 of 19683 + 512.
    is("odds", x.box(0, 0, 0, 1), 974);
  }

  private static void box() {
    promise = 23;
    CharredRoll x = Rolls.threeTurns();
    Rolls.read(x, "ink crack>4;");
    is("no letters", x.box(0, 0, 0, 0), -1);
    // Row 0 has columns 0 and 2, row 2 column 1.
    Rolls.draw(x, 1, 2, 0b010000101);
    x.letter(0b010000101, 1);
    x.letter(0b101111010, 99);
    x.letter(0b010000100, 3);
    is("like", x.box(0, 1, 2, 100), 9);
    is("like", x.box(0, 1, 2, 101), 0);
    is("like", x.box(0, 1, 2, 102), 8);
    is("of like ones the lowest", x.box(0, 1, 2, 0), 0);
    // 19683 each and 99 of the one: 19683000 / 39465.
    is("odds", x.box(0, 1, 2, 1), 498);
    // There the box has bits 1 and 6, the letter 0, 2 and 7; then bit 4 alone against 2 and 7.
    is("a column further", x.box(0, 1, 3, 100), 4);
    is("a row further", x.box(0, 2, 2, 102), 6);
    is("the last box", x.box(0, 3, 6, 102), 7);
    is("beyond the places", x.box(0, 3, 7, 0), -1);
    is("beyond the slices", x.box(0, 4, 0, 0), -1);
    is("a slice with fewer turns", x.wound(2, 2) ? x.box(0, 1, 4, 0) : 0, -1);
    is("but its places are", x.box(0, 1, 3, 0) >= 0 ? 1 : 0, 1);
    int[][] bad = {{-1, 0, 0, 0}, {1, 0, 0, 0}, {MIN, 0, 0, 0}, {0, -1, 0, 0}, {0, 4, 0, 0}, {0, MIN, 0, 0},
        {0, MAX, 0, 0}, {0, 0, -1, 0}, {0, 0, 9, 0}, {0, 0, MIN, 0}, {0, 0, MAX, 0}, {0, 0, MAX - 1, 0}, {0, 0, 0, -1},
        {0, 0, 0, 2}, {0, 0, 0, 99}, {0, 0, 0, 103}, {0, 0, 0, MIN}, {0, 0, 0, MAX}};
    for (int[] b : bad) {
      is("box " + Arrays.toString(b), x.box(b[0], b[1], b[2], b[3]), -1);
    }
    x.pin(5, 0, 0);
    x.pin(5, 1, 3);
    is("without spirals", x.box(0, 3, 0, 0), -1);
    is("ahead of it", x.box(0, 2, 0, 0) >= 0 ? 1 : 0, 1);
  }

  private static void joined() {
    promise = 24;
    CharredRoll x = Rolls.threeTurns();
    Rolls.read(x, "ink crack>4;");
    is("no words", x.joined(0, 0, 0, 0), -1);
    x.letter(0b000000111, 10);
    x.letter(0b111000000, 10);
    x.word(0, -1, -1, 2);
    x.word(0, 1, -1, 2);
    x.word(0, 1, 0, 3);
    x.word(1, 1, 1, 99);
    Rolls.draw(x, 0, 0, 0b000000111);
    Rolls.draw(x, 0, 3, 0b111000000);
    Rolls.draw(x, 0, 6, 0b000000101);
    is("of like ones the lowest", x.joined(0, 0, 0, 0), 0);
    // Bits alike: 9 and 18 for what it's shorter; 18 and 9; 9, 9, 8; 3, 9, 4.
    long[] c = {2 * p3(27), 2 * p3(27), 3 * p3(26), 99 * p3(3 + 9 + 4)};
    long all = c[0] + c[1] + c[2] + c[3];
    is("odds", x.joined(0, 0, 0, 1), 1000 * c[0] / all);
    for (int w = 0; w < 4; w++) {
      is("odds of " + w, x.joined(0, 0, 0, 100 + w), 1000 * c[w] / all);
    }
    is("two letters at most", x.joined(0, 0, 3, 102), -1);
    is("two letters at most", x.joined(0, 0, 3, 101) >= 0 ? 1 : 0, 1);
    is("one letter alone", x.joined(0, 0, 4, 101), -1);
    is("one letter alone", x.joined(0, 0, 6, 0), 0);
    is("it alone", x.joined(0, 0, 6, 1), 1000);
    is("none", x.joined(0, 0, 7, 0), -1);
    x.chances(1, 2);
    // The greater is MISS's 2: 2^(0+18), 2^(0+0+9), 2^(0+0+1), 99 * 2^(6+0+5).
    is("what misses", x.joined(0, 0, 0, 0), 0);
    is("odds", x.joined(0, 0, 0, 1), 1000L * (2L << 18) / ((2L << 18) + (2L << 9) + 3 * 2 + (99L << 11)));
    x.chances(3, 3);
    is("all alike: the weight", x.joined(0, 0, 0, 0), 3);
    is("odds", x.joined(0, 0, 0, 1), 99000 / 106);
    is("odds", x.joined(0, 0, 0, 102), 3000 / 106);
    int[][] bad = {{-1, 0, 0, 0}, {1, 0, 0, 0}, {0, -1, 0, 0}, {0, 4, 0, 0}, {0, MIN, 0, 0}, {0, MAX, 0, 0}, {0, 0, -1, 0},
        {0, 0, 9, 0}, {0, 0, MIN, 0}, {0, 0, MAX, 0}, {0, 0, MAX - 5, 0}, {0, 0, 0, -1}, {0, 0, 0, 2}, {0, 0, 0, 99},
        {0, 0, 0, 104}, {0, 0, 0, MIN}, {0, 0, 0, MAX}};
    for (int[] b : bad) {
      is("joined " + Arrays.toString(b), x.joined(b[0], b[1], b[2], b[3]), -1);
    }
  }

  private static long p3(int n) {
    return n == 0 ? 1 : 3 * p3(n - 1);
  }

  private static void seen() {
    promise = 25;
    CharredRoll x = new CharredRoll(3, 4);
    is("without letters", x.seen(5, 0), 0);
    is("without letters", x.seen(0, 9), 0);
    x.letter(0, 50);
    is("nine tenths to the ninth", x.seen(1, 9), 387420489);
    is("one bit off too", x.seen(1, 8), 774840978);
    is("none is ink", x.seen(0, 9), 1000000000);
    is("all are ink", x.seen(10, 9), 0);
    is("all are ink", x.seen(10, 1), 0);
    is("always", x.seen(10, 0), 1000000000);
    is("always", x.seen(7, 0), 1000000000);
    x.letter(511, 1);
    is("two in 512", x.seen(5, 9), 3906250);
    is("both", x.seen(1, 9), 387420490);
    is("five of nine are one or the other", x.seen(3, 5), 1000000000);
    x.letter(511, 1);
    is("the same letter again", x.seen(1, 9), 387420490);
    int[][] bad = {{-1, 0}, {11, 0}, {MIN, 0}, {MAX, 0}, {0, -1}, {0, 10}, {0, MIN}, {0, MAX}};
    for (int[] b : bad) {
      is("seen " + Arrays.toString(b), x.seen(b[0], b[1]), -1);
    }
  }

  private static void printed() {
    promise = 26;
    CharredRoll x = Rolls.threeTurns();
    is("no readers", x.printed(0, 0, 0, 0, 1), -1);
    Rolls.read(x, "ink crack>4;");
    is("no words", x.printed(1, 0, 0, 0, 1), -1);
    x.letter(0b000000111, 10);
    x.letter(0b111000000, 10);
    x.word(0, 1, -1, 50);
    x.word(1, 0, -1, 50);
    Rolls.draw(x, 0, 0, 0b000000111);
    Rolls.draw(x, 0, 3, 0b111000000);
    is("printed", x.printed(1, 0, 0, 999, 1), 0);
    is("odds", x.joined(0, 0, 0, 1), 999);
    is("more odds than there are", x.printed(1, 0, 0, 1000, 1), -1);
    is("two must count", x.printed(1, 0, 0, 0, 2), -1);
    is("no reader at all", x.printed(0, 0, 0, 0, 1), -1);
    Rolls.read(x, "ink crack>5;");
    // Sees the other way round: where nothing is it sees ink of row 2 at first.
    Rolls.read(x, "ink slice=2 and turn=0;ink slice=0 and turn=1;");
    Rolls.read(x, "ink slice=2 and turn=0;ink slice=0 and turn=1;");
    is("two count", x.printed(3, 0, 0, 0, 2), 0);
    is("the others for another", x.printed(12, 0, 0, 0, 2), 1);
    is("as many for both: the lower", x.printed(15, 0, 0, 0, 1), 0);
    is("more for the other", x.printed(13, 0, 0, 0, 1), 1);
    is("three count for none", x.printed(15, 0, 0, 0, 3), -1);
    x.bit(2, 5, false, 2);
    x.learnt(0, 4);
    is("one learnt from a bit under it", x.printed(3, 0, 0, 0, 2), -1);
    is("the other still counts", x.printed(3, 0, 0, 0, 1), 0);
    is("now more for the other", x.printed(15, 0, 0, 0, 1), 1);
    x.learnt(0, 11);
    is("of other groups it may have learnt", x.printed(3, 0, 0, 0, 2), 0);
    x.bit(2, 6, false, 0);
    x.bit(3, 0, false, 0);
    is("bits beside it", x.printed(3, 0, 0, 0, 2), 0);
    x.bit(0, 0, true, 0);
    is("a bit under it", x.printed(3, 0, 0, 0, 2), -1);
    x.bit(0, 0, true, 2);
    is("told anew of another group", x.printed(3, 0, 0, 0, 2), 0);
    byInkAlone();
    int[][] bad = {{-1, 0, 0, 0, 1}, {16, 0, 0, 0, 1}, {MIN, 0, 0, 0, 1}, {MAX, 0, 0, 0, 1}, {1, -1, 0, 0, 1},
        {1, 4, 0, 0, 1}, {1, MAX, 0, 0, 1}, {1, MIN, 0, 0, 1}, {1, 0, -1, 0, 1}, {1, 0, 4, 0, 1}, {1, 0, MAX, 0, 1},
        {1, 0, MIN, 0, 1}, {1, 0, 0, -1, 1}, {1, 0, 0, 1001, 1}, {1, 0, 0, 0, 0}, {1, 0, 0, 0, 5}, {1, 0, 0, 0, MIN}};
    for (int[] b : bad) {
      is("printed " + Arrays.toString(b), x.printed(b[0], b[1], b[2], b[3], b[4]), -1);
    }
    CharredRoll y = Rolls.threeTurns();
    Rolls.read(y, "");
    y.letter(0, 1);
    y.word(0, -1, -1, 1);
    is("one reader", y.printed(1, 3, 6, 1000, 1), 0);
    is("a reader that isn't told", y.printed(2, 3, 6, 1000, 1), -1);
    is("with one that isn't told", y.printed(3, 3, 6, 1000, 1), -1);
  }

  /** A word may be the likeliest though ink alone reads one of its letters otherwise. */
  private static void byInkAlone() {
    CharredRoll x = Rolls.threeTurns();
    Rolls.read(x, "ink crack>4;");
    x.letter(0b000000111, 10);
    x.letter(0b000000011, 10);
    x.word(0, 0, -1, 99);
    Rolls.draw(x, 0, 0, 0b000000111);
    Rolls.draw(x, 0, 3, 0b000000011);
    is("the word", x.joined(0, 0, 0, 0), 0);
    is("by ink alone", x.box(0, 0, 3, 0), 1);
    is("isn't printed", x.printed(1, 0, 0, 0, 1), -1);
    Rolls.draw(x, 0, 3, 0b000000111);
    is("is printed", x.printed(1, 0, 0, 0, 1), 0);
  }

  private static void length() {
    promise = 27;
    CharredRoll x = new CharredRoll(3, 4);
    is("the least", x.length(10, 1, 3, 5, false), 17);
    is("the greatest", x.length(10, 1, 3, 5, true), 45);
    is("down to the least itself", x.length(11, 2, 3, 5, false), 24);
    is("one turn alone", x.length(7, 1, 1, 7, true), 7);
    is("one turn alone", x.length(1, 999, 999, 1, false), 1);
    is("all there are", x.length(9999, 1, 999, 1, true), 49995000);
    // 9999, 9000, 8001, 7002, 6003, 5004, 4005, 3006, 2007, 1008, 9.
    is("few", x.length(9999, 1, 999, 1, false), 55044);
    is("as low as high", x.length(100, 30, 30, 1, true), 220);
    int[][] bad = {{0, 1, 1, 1}, {10000, 1, 1, 1}, {10, 0, 1, 1}, {10, 1, 0, 1}, {10, 1, 1000, 1}, {10, 1000, 1000, 1},
        {10, 2, 1, 1}, {10, 1, 1, 0}, {10, 1, 1, 11}, {9999, 1, 1, 10000}, {MIN, 1, 1, 1}, {MAX, 1, 1, 1}, {10, MIN, 1, 1},
        {10, 1, MAX, 1}, {10, 1, 1, MIN}, {10, 1, 1, MAX}};
    for (int[] b : bad) {
      is("length " + Arrays.toString(b), x.length(b[0], b[1], b[2], b[3], false), -1);
      is("length " + Arrays.toString(b), x.length(b[0], b[1], b[2], b[3], true), -1);
    }
  }

  private static void part() {
    promise = 28;
    CharredRoll x = new CharredRoll(3, 4);
    int[][] bad = {{0, 1, 0}, {51, 1, 0}, {1, 0, 0}, {1, 1000, 0}, {1, 1, -1}, {1, 1, 4}, {MIN, 1, 0}, {1, MAX, 0},
        {1, 1, MIN}};
    for (int[] b : bad) {
      is("part " + Arrays.toString(b), x.part(b[0], b[1], b[2]), -1);
    }
    is("the least", x.part(1, 1, 0), 1);
    is("the greatest", x.part(50, 999, 3), 2);
    for (int i = 3; i <= 16; i++) {
      is("one more", x.part(25, 999, i % 4), i);
    }
    is("there are 16", x.part(1, 1, 0), -1);
    is("sixteen", x.about(8), 16);
    // 50 and 14 times 25 hours are 400; the first part is left out.
    is("all but the one of least worth", x.plan(400, 0), 0xfffe);
    is("in all hours", x.plan(400, 2), 400);
  }

  private static void fetch() {
    promise = 29;
    CharredRoll x = new CharredRoll(3, 4);
    x.part(1, 1, 3);
    is("0 at first", x.plan(1, 2), 1);
    yes("fetch", x.fetch(3, 50));
    is("too far", x.plan(50, 1), 0);
    is("just so", x.plan(51, 2), 51);
    int[][] bad = {{-1, 1}, {4, 1}, {3, -1}, {3, 51}, {MIN, 1}, {MAX, 1}, {3, MIN}, {3, MAX}};
    for (int[] b : bad) {
      no("fetch " + Arrays.toString(b), x.fetch(b[0], b[1]));
      is("as it was", x.plan(51, 2), 51);
    }
    yes("told anew", x.fetch(3, 0));
    is("one hour", x.plan(1, 2), 1);
  }

  private static void plan() {
    promise = 30;
    CharredRoll x = new CharredRoll(3, 4);
    is("no parts: the set", x.plan(400, 0), 0);
    is("worth", x.plan(400, 1), 0);
    is("hours", x.plan(400, 2), 0);
    x.part(5, 10, 0);
    x.part(5, 10, 1);
    x.part(3, 4, 0);
    x.fetch(0, 2);
    is("of like ones the fewer hours", x.plan(7, 0), 2);
    is("worth", x.plan(7, 1), 10);
    is("hours", x.plan(7, 2), 5);
    is("a roll is brought once", x.plan(10, 0), 5);
    is("14", x.plan(10, 1), 14);
    is("10 hours", x.plan(10, 2), 10);
    is("both rolls", x.plan(14, 0), 3);
    is("all", x.plan(15, 0), 7);
    is("all", x.plan(400, 2), 15);
    is("one short", x.plan(4, 0), 0);
    is("no hours", x.plan(0, 0), 0);
    CharredRoll y = new CharredRoll(3, 4);
    y.part(4, 6, 0);
    y.part(2, 3, 1);
    y.part(2, 3, 2);
    is("of like worth and hours the lowest set", y.plan(4, 0), 1);
    CharredRoll z = new CharredRoll(3, 4);
    z.part(2, 3, 1);
    z.part(2, 3, 2);
    z.part(4, 6, 0);
    is("of like worth and hours the lowest set", z.plan(4, 0), 3);
    z.fetch(0, 0);
    z.fetch(1, 1);
    is("now the other takes fewer hours", z.plan(5, 0), 4);
    is("hours", z.plan(5, 2), 4);
    int[][] bad = {{-1, 0}, {401, 0}, {MIN, 0}, {MAX, 0}, {0, -1}, {0, 3}, {0, MIN}, {0, MAX}};
    for (int[] b : bad) {
      is("plan " + Arrays.toString(b), z.plan(b[0], b[1]), -1);
    }
  }

  /** Everything that an image holds, changed by one call each. */
  private static void changeAll(CharredRoll x) {
    x.grey(0, 0, 0, 9, 9);
    x.wound(0, 1);
    x.pin(1, 0, 1);
    x.step(2);
    x.jump(1);
    Rolls.read(x, "ink crack>4;");
    x.bit(0, 0, true, 0);
    x.learnt(0, 3);
    x.letter(1, 2);
    x.word(0, -1, -1, 3);
    x.chances(2, 3);
    x.part(1, 9, 0);
    x.fetch(0, 4);
  }

  /** What can be asked, in one row, but for the tape and the latest fault. */
  private static long[] all(CharredRoll x) {
    long[] row = new long[60];
    int n = 0;
    for (int what = 0; what < 24; what++) {
      row[n++] = what == 9 ? 0 : x.about(what);
    }
    for (int slice = 0; slice < 2; slice++) {
      for (int what : new int[] {0, 1, 100, 101}) {
        row[n++] = x.best(slice, what);
      }
      row[n++] = x.walked(slice, 0, 0);
      row[n++] = x.ink(0, slice, 0);
    }
    row[n++] = x.right(0, true, 0);
    row[n++] = x.box(0, 1, 0, 1);
    row[n++] = x.joined(0, 1, 0, 0);
    row[n++] = x.seen(3, 8);
    row[n++] = x.plan(5, 0);
    row[n++] = x.plan(4, 0);
    return row;
  }

  private static void image() {
    promise = 31;
    CharredRoll x = new CharredRoll(3, 4);
    is("no bits", x.image(), 0);
    long[] first = all(x);
    changeAll(x);
    long[] changed = all(x);
    is("changed", Arrays.equals(first, changed) ? 1 : 0, 0);
    is("one bit", x.image(), 1);
    x.bit(3, 3, true, 0);
    x.bit(0, 0, false, 1);
    x.learnt(0, 0);
    x.jump(99);
    x.unwalk();
    x.step(0);
    x.chances(1, 1);
    x.fetch(0, 0);
    x.pin(1, 3, 3);
    x.wound(1, 4);
    x.letter(511, 99);
    x.word(1, -1, -1, 99);
    x.part(3, 3, 3);
    Rolls.read(x, "");
    x.column(1, 1, 4321);
    is("one bit again", x.back(), 1);
    is("all is so again", Arrays.equals(all(x), changed) ? 1 : 0, 1);
    is("a bit is told anew as it was", x.right(0, true, 1), 1);
  }

  private static void back() {
    promise = 32;
    CharredRoll x = new CharredRoll(4, 5);
    long[] first = all(x);
    for (int i = 0; i < 2; i++) {
      changeAll(x);
      Rolls.tape(x, "abc");
      is("no bits", x.back(), 0);
      is("the image stays", Arrays.equals(all(x), first) ? 1 : 0, 1);
      is("the tape is as it was", x.about(9), 3);
      is("the latest fault too", x.fault(0), 0);
    }
    is("a reader again", x.end(0) == 0 ? Rolls.read(x, "!") : 0, -1);
    x.image();
    is("a text later", Rolls.read(x, ""), 0);
    x.back();
    is("of the latest text", x.fault(0), 0);
    is("no reader", x.about(2), 0);
  }

  private static void about() {
    promise = 33;
    CharredRoll x = new CharredRoll(5, 9);
    Rolls.read(x, "");
    Rolls.read(x, "");
    x.learnt(1, 6);
    x.pin(0, 0, 0);
    for (int i = 0; i < 2; i++) {
      x.step(0);
    }
    for (int i = 0; i < 3; i++) {
      x.bit(0, i, true, 0);
    }
    for (int i = 0; i < 5; i++) {
      x.letter(i, 1);
    }
    for (int i = 0; i < 4; i++) {
      x.word(i, -1, -1, 1);
    }
    for (int i = 0; i < 7; i++) {
      x.part(1, 1, 0);
    }
    x.feed(0, 0, 0, 0, 0);
    for (int slice = 0; slice < 6; slice++) {
      x.wound(slice, 1 + slice % 4);
    }
    int[] due = {5, 9, 2, 1, 2, 3, 5, 4, 7, 20, 1, 2, 3, 4, 1, 2, -1, -1, -1, -1, 0, 6, -1, -1, -1};
    for (int what = 0; what < due.length; what++) {
      is("about(" + what + ")", x.about(what), due[what]);
    }
    for (int what : new int[] {-1, 25, 100, MIN, MAX, MIN + 10, MIN + 20}) {
      is("about(" + what + ")", x.about(what), -1);
    }
  }
}
