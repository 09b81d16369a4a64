import java.util.Arrays;

/** The boundary cases that the document names in part I of its terms and in promises 1 to 11, a sentence at a time. */
public final class EdgesOfSlicesTest {
  private static final int MIN = Edges.MIN;
  private static final int MAX = Edges.MAX;
  private static final Edges DOC = new Edges();

  /** How many spirals there are without grey and pins, by TURNS: a row for each of 4 to 12 radii, of 3 to 6 angles. */
  private static final long[][] SPIRALS = {
      {26, 47, 32, 1}, {35, 86, 163, 60}, {44, 126, 394, 483}, {53, 166, 670, 1593}, {62, 206, 956, 3302},
      {71, 246, 1243, 5298}, {80, 286, 1530, 7375}, {89, 326, 1817, 9465}, {98, 366, 2104, 11556},
      {68, 212, 128, 1}, {95, 483, 1228, 300}, {122, 795, 4380, 5469}, {149, 1116, 9471, 31061},
      {176, 1438, 15621, 93220}, {203, 1760, 22145, 192112}, {230, 2082, 28756, 314949}, {257, 2404, 35380, 448688},
      {284, 2726, 42005, 586027},
      {178, 972, 512, 1}, {259, 2761, 9263, 1500}, {340, 5169, 48170, 61475}, {421, 7820, 133386, 586118},
      {502, 10535, 259008, 2528996}, {583, 13261, 408213, 6764545}, {664, 15988, 567400, 13366559},
      {745, 18715, 729756, 21706418}, {826, 21442, 892870, 31012824},
      {466, 4458, 2048, 1}, {707, 15728, 69590, 7500}, {950, 33526, 522142, 686641},
      {1193, 54978, 1840087, 10822375}, {1436, 77860, 4219047, 66209759}, {1679, 101158, 7457727, 228564763},
      {1922, 124545, 11208736, 546131285}, {2165, 147945, 15197526, 1021428854}, {2408, 171346, 19274810, 1618378884},
  };

  public static void main(String[] args) {
    slices();
    anglesAndRadii();
    greyAndCrackAtFirst();
    turnsAtFirst();
    places();
    changesByOne();
    greaterATurnLater();
    pinsOfAll();
    pinsOfPlacesThatArentThere();
    fit();
    aMillionAtMost();
    theBest();
    sure();
    stepsAtMost();
    overTurnByTurn();
    nineWithoutAPlace();
    jumpAtFirst();
    lesserOver();
    slicesOfKTurnsOrMore();
    leastWidth();
    newObject();
    grey();
    column();
    wound();
    pin();
    best();
    step();
    unwalk();
    jump();
    walked();
    flat();
    DOC.close();
  }

  /** What slice 0 answers to what, wound k times, with pins told as place, radius, place, radius .. */
  private static int pinned(int radii, int k, int what, int... pins) {
    CharredRoll x = new CharredRoll(3, radii);
    x.wound(0, k);
    for (int i = 0; i < pins.length; i += 2) {
      x.pin(0, pins[i], pins[i + 1]);
    }
    return x.best(0, what);
  }

  private static void isSpiral(int radii, int k, int... pins) {
    DOC.is(radii + " radii, " + k + " turns, pins " + Arrays.toString(pins), pinned(radii, k, 0, pins), 0);
  }

  private static void isNone(int radii, int k, int... pins) {
    DOC.is(radii + " radii, " + k + " turns, pins " + Arrays.toString(pins), pinned(radii, k, 0, pins), -1);
  }

  private static void walk(CharredRoll x, int... radii) {
    x.unwalk();
    for (int radius : radii) {
      x.step(radius);
    }
  }

  private static void isWalked(CharredRoll x, int place, int cost, int changes, int... places) {
    String from = "walked from " + place;
    DOC.is(from + ": the least", x.walked(0, place, 0), cost);
    DOC.is(from + ": changes", x.walked(0, place, 1), changes);
    for (int i = 0; i < places.length; i++) {
      DOC.is(from + ": place of step " + i, x.walked(0, place, 100 + i), places[i]);
    }
  }

  private static void slices() {
    DOC.says("Terms I", "SLICES 0 .. 5");
    for (int slice : new int[] {0, 5}) {
      CharredRoll x = new CharredRoll(3, 4);
      DOC.yes("grey", x.grey(slice, 0, 0, 9, 9));
      DOC.is("its fit", x.best(slice, 0), 9);
      DOC.yes("column", x.column(slice, 1, 3));
      DOC.is("its fit", x.best(slice, 0), 12);
      DOC.yes("wound", x.wound(slice, 1));
      DOC.is("its turns", x.about(10 + slice), 1);
      DOC.is("pin", x.pin(slice, 0, 1), 1);
      DOC.is("its fit by the pin", x.best(slice, 0), 3);
      x.step(1);
      DOC.is("walked", x.walked(slice, 0, 0), 0);
      Rolls.read(x, "ink slice=" + slice + ";");
      DOC.is("ink", x.ink(0, slice, 0), 1);
      DOC.is("bit", x.bit(slice, 0, true, 0), 1);
      DOC.is("right", x.right(0, false, 0), 1);
      DOC.is("the other end is as it was", x.best(5 - slice, 0), 0);
    }
    for (int slice : new int[] {-1, 6, MIN, MAX}) {
      CharredRoll x = Rolls.some();
      DOC.no("grey", x.grey(slice, 0, 0, 9, 9));
      DOC.no("column", x.column(slice, 0, 9999));
      DOC.no("wound", x.wound(slice, 1));
      DOC.is("pin", x.pin(slice, 1, 1), -1);
      DOC.is("best", x.best(slice, 0), -1);
      DOC.is("walked", x.walked(slice, 0, 0), -1000);
      DOC.is("ink", x.ink(0, slice, 0), -1);
      DOC.is("bit", x.bit(slice, 0, true, 0), -1);
      DOC.unchanged("slice " + slice, Rolls::some, x);
    }
  }

  private static void anglesAndRadii() {
    DOC.says("Terms I", "ANGLES 0 .. A - 1, RADII 0 .. R - 1");
    for (int a = 3; a <= 6; a++) {
      for (int r = 4; r <= 12; r++) {
        CharredRoll x = new CharredRoll(a, r);
        x.wound(2, 1);
        DOC.yes("the last angle and radius", x.grey(2, a - 1, r - 1, 9, 0));
        DOC.is("the best goes there", x.best(2, 100 + a - 1), r - 1);
        DOC.yes("the first angle and radius", x.grey(2, 0, 0, 9, 0));
        DOC.no("angle A", x.grey(2, a, 0, 9, 9));
        DOC.no("radius R", x.grey(2, 0, r, 9, 9));
        DOC.no("column of angle A", x.column(2, a, 9));
        DOC.is("pin of radius R", x.pin(2, 0, r), -1);
        DOC.is("step to radius R", x.step(r), -1);
        DOC.is("the first and the last, or one of them", x.best(2, 0), r - 1 <= a - 1 ? 18 : 9);
        for (int slice = 3; slice < 6; slice++) {
          DOC.is("the slices behind are as they were", x.best(slice, 0), 0);
        }
        DOC.is("step to the last radius", x.step(r - 1), 1);
        DOC.is("pin of the last radius", x.pin(2, a - 1, r - 1), 1);
      }
    }
  }

  private static void greyAndCrackAtFirst() {
    DOC.says("Terms I", "GREY and CRACK (0 .. 9 each; at first 0)");
    CharredRoll x = new CharredRoll(6, 12);
    Rolls.read(x, "ink grey=0 and crack=0 and in=0 and out=0;");
    for (int slice = 0; slice < 6; slice++) {
      DOC.is("fit at first", x.best(slice, 0), 0);
      DOC.is("all are alike", x.best(slice, 1), 171346);
      for (int place = 0; place < 12; place++) {
        DOC.is("grey and crack at first", x.ink(0, slice, place), 1);
      }
    }
    CharredRoll y = new CharredRoll(3, 4);
    y.wound(0, 1);
    Rolls.read(y, "ink grey=9 and crack=9;");
    Rolls.read(y, "ink grey=0 and crack=0;");
    for (int radius = 0; radius < 4; radius++) {
      DOC.yes("the greatest", y.grey(0, 1, radius, 9, 9));
      DOC.is("is taken", y.ink(0, 0, 1), 1);
      DOC.no("above", y.grey(0, 1, radius, 10, 9));
      DOC.no("above", y.grey(0, 1, radius, 9, 10));
      DOC.is("as it was", y.ink(0, 0, 1), 1);
      DOC.yes("the least", y.grey(0, 1, radius, 0, 0));
      DOC.no("below", y.grey(0, 1, radius, -1, 0));
      DOC.no("below", y.grey(0, 1, radius, 0, -1));
      DOC.is("is taken", y.ink(1, 0, 1), 1);
      DOC.is("no fit", y.best(0, 0), 0);
    }
  }

  private static void turnsAtFirst() {
    DOC.says("Terms I", "TURNS of a SLICE: K (1 .. 4; at first 2)");
    CharredRoll x = new CharredRoll(3, 4);
    for (int slice = 0; slice < 6; slice++) {
      DOC.is("at first", x.about(10 + slice), 2);
      DOC.is("the last place", x.best(slice, 105), 1);
      DOC.is("no such place", x.best(slice, 106), -1);
      for (int k : new int[] {1, 4}) {
        DOC.yes("wound", x.wound(slice, k));
        DOC.is("turns", x.about(10 + slice), k);
        DOC.no("none", x.wound(slice, 0));
        DOC.no("five", x.wound(slice, 5));
        DOC.is("turns", x.about(10 + slice), k);
      }
    }
  }

  private static void places() {
    DOC.says("Terms I", "PLACES i = 0 .. K A - 1: ANGLE i mod A, TURN i / A");
    for (int a = 3; a <= 6; a++) {
      for (int k = 1; k <= 4; k++) {
        CharredRoll x = new CharredRoll(a, 12);
        x.wound(1, k);
        Rolls.read(x, "ink angle=" + (a - 1) + ";");
        Rolls.read(x, "ink turn=" + (k - 1) + " and angle=0;");
        for (int place = 0; place < k * a; place++) {
          DOC.is("the last angle at " + place, x.ink(0, 1, place), place % a == a - 1 ? 1 : 0);
          DOC.is("the last turn at " + place, x.ink(1, 1, place), place == (k - 1) * a ? 1 : 0);
        }
        for (int place : new int[] {-1, k * a, MIN, MAX}) {
          DOC.is("ink at " + place, x.ink(0, 1, place), -1);
        }
        // Without grey THE BEST goes as far in as may be: a radius for each turn.
        DOC.is("the last place", x.best(1, 100 + k * a - 1), k - 1);
        DOC.is("behind it", x.best(1, 100 + k * a), -1);
      }
    }
  }

  private static void changesByOne() {
    DOC.says("Terms I", "from PLACE to PLACE it changes by 1 at most");
    isSpiral(4, 1, 0, 0, 1, 1);
    isNone(4, 1, 0, 0, 1, 2);
    isSpiral(4, 1, 0, 3, 1, 2);
    isNone(4, 1, 0, 3, 1, 1);
    isSpiral(4, 1, 0, 2, 1, 2);
    isSpiral(4, 1, 0, 0, 2, 2);
    isNone(4, 1, 0, 0, 2, 3);
    isSpiral(4, 1, 0, 3, 2, 1);
    isNone(4, 1, 0, 3, 2, 0);
    // From the last angle round to the first of the next turn likewise.
    isSpiral(12, 2, 2, 0, 3, 1);
    isNone(12, 2, 2, 0, 3, 2);
    isSpiral(12, 2, 2, 3, 3, 2);
    isNone(12, 2, 2, 3, 3, 1);
    isSpiral(12, 4, 8, 5, 9, 6);
    isNone(12, 4, 8, 5, 9, 7);
  }

  private static void greaterATurnLater() {
    DOC.says("Terms I", "a TURN later it is greater than at the same ANGLE ahead");
    isNone(4, 2, 0, 1, 3, 1);
    isSpiral(4, 2, 0, 1, 3, 2);
    isNone(4, 2, 0, 2, 3, 1);
    isNone(4, 2, 2, 1, 5, 1);
    isSpiral(4, 2, 2, 1, 5, 2);
    // Two turns later by two or more, and inside and outside there is room for every turn.
    isNone(12, 3, 0, 5, 6, 6);
    isSpiral(12, 3, 0, 5, 6, 7);
    isNone(12, 4, 8, 4, 11, 4);
    isSpiral(12, 4, 8, 4, 11, 5);
    isNone(4, 2, 3, 0);
    isSpiral(4, 2, 3, 1);
    isNone(4, 2, 0, 3);
    isSpiral(4, 2, 0, 2);
    isSpiral(4, 1, 0, 3);
    isNone(4, 4, 0, 1);
    isNone(4, 4, 11, 2);
    isSpiral(4, 4, 11, 3);
    isNone(12, 4, 0, 9);
    isSpiral(12, 4, 0, 8);
    DOC.is("four turns in four radii: one way", pinned(4, 4, 1), 1);
  }

  private static CharredRoll twentyPins() {
    CharredRoll x = Rolls.some();
    for (int i = 2; i < 20; i++) {
      x.pin(i % 6, 6 + i / 6, i % 4);
    }
    return x;
  }

  private static void pinsOfAll() {
    DOC.says("Terms I", "PINS (20 at most, of all)");
    CharredRoll x = new CharredRoll(6, 12);
    for (int i = 0; i < 20; i++) {
      DOC.is("pin " + i, x.pin(i % 6, 20 + i / 6, 5), i + 1);
    }
    for (int slice = 0; slice < 6; slice++) {
      DOC.is("the 21st", x.pin(slice, 0, 3), -1);
      DOC.is("it doesn't hold", x.best(slice, 100), 0);
    }
    DOC.is("twenty", x.about(3), 20);
    DOC.is("they hold", x.wound(0, 4) ? x.best(0, 120) : 0, 5);
    CharredRoll y = new CharredRoll(6, 12);
    for (int place = 0; place < 20; place++) {
      DOC.is("in one slice", y.pin(0, place, 2 + place / 6), place + 1);
    }
    DOC.is("elsewhere", y.pin(1, 0, 0), -1);
    y.wound(0, 4);
    DOC.is("all hold", y.best(0, 119), 5);
    DOC.is("all hold", y.best(0, 100), 2);
  }

  private static void pinsOfPlacesThatArentThere() {
    DOC.says("Terms I", "PINS of PLACES that aren't there don't count");
    for (int k = 1; k <= 3; k++) {
      CharredRoll x = new CharredRoll(3, 4);
      x.wound(0, k);
      // Radius 0 can't be at the first place of any turn but the first.
      DOC.is("a pin of the first place that isn't there", x.pin(0, 3 * k, 0), 1);
      DOC.is("a spiral", x.best(0, 0), 0);
      DOC.is("as many as without it", x.best(0, 1), SPIRALS[0][k - 1]);
      x.wound(0, k + 1);
      DOC.is("now it counts", x.best(0, 0), -1);
      x.wound(0, k);
      DOC.is("and no longer", x.best(0, 0), 0);
    }
    CharredRoll y = new CharredRoll(3, 4);
    DOC.is("a pin of the last place that is there", y.pin(0, 5, 0), 1);
    DOC.is("counts", y.best(0, 0), -1);
    DOC.is("a pin of the last place of four turns", y.pin(1, 11, 0), 2);
    DOC.is("doesn't", y.best(1, 0), 0);
    DOC.is("but it is one", y.about(3), 2);
    DOC.is("and is there", y.pin(1, 11, 3), -1);
  }

  private static void fit() {
    DOC.says("Terms I", "FIT: GREY of all PLACES together");
    for (int k = 1; k <= 4; k++) {
      CharredRoll x = new CharredRoll(6, 12);
      x.wound(0, k);
      for (int angle = 0; angle < 6; angle++) {
        x.column(0, angle, 999999999999L);
      }
      DOC.is("the greatest that can be", x.best(0, 0), 54 * k);
      DOC.is("as many as without grey", x.best(0, 1), Math.min(1000000, SPIRALS[35][k - 1]));
      for (int angle = 0; angle < 6; angle++) {
        x.column(0, angle, 0);
      }
      DOC.is("the least that can be", x.best(0, 0), 0);
    }
  }

  private static void aMillionAtMost() {
    DOC.says("Terms I", "how many there are (1000000 at most is told)");
    for (int a = 3; a <= 6; a++) {
      for (int r = 4; r <= 12; r++) {
        CharredRoll x = new CharredRoll(a, r);
        for (int k = 1; k <= 4; k++) {
          x.wound(k, k);
          long ways = SPIRALS[(a - 3) * 9 + r - 4][k - 1];
          DOC.is(a + " angles, " + r + " radii, " + k + " turns", x.best(k, 1), Math.min(1000000, ways));
        }
      }
    }
    CharredRoll x = new CharredRoll(6, 10);
    x.wound(0, 4);
    x.pin(0, 2, 1);
    x.pin(0, 14, 8);
    x.pin(0, 23, 9);
    DOC.is("a few fewer", x.best(0, 1), 999974);
    x.wound(1, 3);
    x.pin(1, 11, 7);
    x.pin(1, 12, 8);
    DOC.is("a few fewer", x.best(1, 1), 999926);
    x.wound(2, 3);
    x.pin(2, 10, 6);
    x.pin(2, 14, 8);
    DOC.is("of 1000124", x.best(2, 1), 1000000);
    DOC.is("none", pinned(4, 2, 1, 0, 3), -1);
    DOC.is("one", pinned(4, 1, 1, 0, 3, 1, 2, 2, 1), 1);
  }

  private static void theBest() {
    DOC.says("Terms I", "of them that with the least RADIUS at PLACE 0, then 1, and so on");
    CharredRoll x = new CharredRoll(3, 4);
    x.wound(0, 1);
    // 3 is reached from 1 2 3, 2 2 3, 2 3 3, 3 2 3 and 3 3 3; the first of them is the least at place 0.
    x.grey(0, 2, 3, 9, 0);
    int[] due = {1, 2, 3};
    for (int place = 0; place < 3; place++) {
      DOC.is("place " + place, x.best(0, 100 + place), due[place]);
    }
    DOC.is("how many", x.best(0, 1), 5);
    // Place 0 alone is asked for 3: then the least at place 1, then at place 2.
    x.wound(1, 1);
    x.grey(1, 0, 3, 9, 0);
    for (int place = 0; place < 3; place++) {
      DOC.is("place " + place, x.best(1, 100 + place), 3 - place);
    }
    // Two of the same FIT: 0 at place 0, or 3 at place 2.
    x.wound(2, 1);
    x.grey(2, 0, 0, 9, 0);
    x.grey(2, 2, 3, 9, 0);
    for (int place = 0; place < 3; place++) {
      DOC.is("place " + place, x.best(2, 100 + place), 0);
    }
  }

  private static void sure() {
    DOC.says("Terms I", "SURE: all BEST ones have one RADIUS at a PLACE");
    CharredRoll x = new CharredRoll(3, 4);
    x.wound(0, 4);
    for (int place = 0; place < 12; place++) {
      DOC.is("where there is one alone, at " + place, x.best(0, 200 + place), 1);
    }
    x.wound(1, 1);
    x.grey(1, 2, 3, 9, 0);
    DOC.is("1, 2 or 3", x.best(1, 200), 0);
    DOC.is("2 or 3", x.best(1, 201), 0);
    DOC.is("3", x.best(1, 202), 1);
    x.grey(1, 0, 1, 1, 0);
    for (int place = 0; place < 3; place++) {
      DOC.is("one alone is the best", x.best(1, 200 + place), 1);
    }
    x.wound(2, 1);
    for (int place = 0; place < 3; place++) {
      DOC.is("all alike", x.best(2, 200 + place), 0);
    }
  }

  private static CharredRoll thirtySteps() {
    CharredRoll x = Rolls.some();
    for (int i = 4; i < 30; i++) {
      x.step(i % 4);
    }
    return x;
  }

  private static void stepsAtMost() {
    DOC.says("Terms I", "A WALK in a SLICE: RADII (30 at most, told one by one)");
    CharredRoll x = new CharredRoll(3, 12);
    x.jump(99);
    for (int i = 1; i <= 29; i++) {
      DOC.is("step " + i, x.step(0), i);
    }
    // Radii 0 0 0 1 1 1 at the places, then 23 steps without a place.
    DOC.is("29 steps", x.walked(0, 0, 0), 3 + 23 * 9);
    DOC.is("the thirtieth", x.step(0), 30);
    DOC.is("30 steps", x.walked(0, 0, 0), 3 + 24 * 9);
    DOC.is("the 31st", x.step(0), -1);
    DOC.is("30 steps", x.about(4), 30);
    DOC.is("30 steps", x.walked(0, 0, 0), 3 + 24 * 9);
    DOC.is("the last step", x.walked(0, 0, 129), -1000);
    x.wound(0, 4);
    // 0 0 0 1 1 1 2 2 2 3 3 3, then 18 without a place.
    DOC.is("with more places", x.walked(0, 0, 0), 3 + 6 + 9 + 18 * 9);
    x.jump(0);
    DOC.is("the last step at the place of least radius that it can reach", x.walked(0, 0, 129) < 12 ? 1 : 0, 1);
  }

  private static void overTurnByTurn() {
    DOC.says("Terms I", "at first 0, then from step to step 1 more, 1 less or the same");
    CharredRoll x = new CharredRoll(3, 4);
    x.wound(0, 4);
    x.jump(0);
    // THE BEST is 0 0 0 1 1 1 2 2 2 3 3 3.
    walk(x, 3);
    isWalked(x, 0, 3, 0, 0);
    walk(x, 0, 3);
    isWalked(x, 0, 2, 1, 0, 4);
    walk(x, 0, 3, 3);
    isWalked(x, 0, 3, 2, 0, 4, 8);
    walk(x, 0, 3, 3, 3);
    isWalked(x, 0, 3, 2, 0, 4, 8, 9);
    walk(x, 3, 0);
    isWalked(x, 9, 2, 1, 9, 7);
    walk(x, 3, 0, 0);
    isWalked(x, 9, 3, 2, 9, 7, 5);
    walk(x, 3, 0, 0, 0);
    isWalked(x, 9, 4, 3, 9, 7, 5, 3);
  }

  private static void nineWithoutAPlace() {
    DOC.says("Terms I", "how far its RADIUS is from THE BEST one there (9 where there is no such PLACE)");
    CharredRoll x = new CharredRoll(3, 12);
    x.wound(0, 1);
    walk(x, 0, 0, 0, 0);
    x.jump(8);
    isWalked(x, 0, 8, 1, 0, 1, 2, 0);
    x.jump(9);
    isWalked(x, 0, 9, 1, 0, 1, 2, 0);
    x.jump(10);
    isWalked(x, 0, 9, 0, 0, 1, 2, -1000);
    // A place may cost more than none: 11 of place 0 to 11 itself. Ahead of place 0 there is none.
    walk(x, 11, 11);
    x.jump(1);
    isWalked(x, 0, 21, 1, 0, -1000);
    x.jump(2);
    isWalked(x, 0, 22, 1, 0, -1000);
    x.jump(3);
    isWalked(x, 0, 22, 0, 0, 1);
    // All cost nine: the lesser s at step 1, and at step 2 a lesser one still.
    walk(x, 9, 9, 9);
    x.jump(0);
    isWalked(x, 0, 27, 2, 0, -1000, -1000);
    walk(x, 0, 8);
    isWalked(x, 0, 8, 0, 0, 1);
    walk(x, 0, 0);
    isWalked(x, 2, 0, 1, 2, 0);
    x.jump(99);
    isWalked(x, 2, 9, 0, 2, -1000);
  }

  private static void jumpAtFirst() {
    DOC.says("Terms I", "JUMP (0 .. 99; at first 5) for each change of s");
    CharredRoll x = new CharredRoll(3, 4);
    x.wound(0, 1);
    walk(x, 0, 0, 0, 0, 0, 0, 0);
    DOC.is("two changes at first", x.walked(0, 0, 0), 10);
    for (int cost : new int[] {4, 0}) {
      DOC.yes("jump", x.jump(cost));
      DOC.is("two changes", x.walked(0, 0, 0), 2 * cost);
    }
    // Steps 3 to 6 without a place.
    DOC.yes("jump", x.jump(99));
    DOC.is("no change", x.walked(0, 0, 0), 36);
    // Four turns of six places that rise by one every other place: a turn further is three further out.
    CharredRoll y = new CharredRoll(6, 12);
    y.wound(0, 4);
    for (int place = 0; place < 24; place++) {
      y.grey(0, place % 6, place / 2, 9, 0);
    }
    y.step(3);
    for (int step = 1; step < 24; step++) {
      y.step(step / 2);
    }
    y.jump(99);
    isWalked(y, 6, 99, 1, 6, 1, 2);
    DOC.no("above", y.jump(100));
    DOC.no("below", y.jump(-1));
    isWalked(y, 6, 99, 1, 6, 1, 2);
    y.jump(0);
    isWalked(y, 6, 0, 1, 6, 1, 2);
  }

  private static void lesserOver() {
    DOC.says("Terms I", "of like ones that which has the lesser s at the first step where they part");
    CharredRoll x = new CharredRoll(3, 12);
    x.wound(0, 3);
    x.pin(0, 1, 0);
    x.pin(0, 4, 2);
    x.pin(0, 7, 4);
    int[] radii = {0, 0, 0, 1, 2, 2, 3, 4, 3};
    for (int place = 0; place < 9; place++) {
      DOC.is("the best at " + place, x.best(0, 100 + place), radii[place]);
    }
    // Radius 1 is as far from place 1 as from place 4, radius 3 as far from 4 as from 7.
    x.jump(0);
    walk(x, 1, 1);
    isWalked(x, 3, 1, 1, 3, 1);
    walk(x, 1, 3);
    isWalked(x, 3, 1, 0, 3, 4);
    // A jump that costs what it saves: back a turn is the lesser s, on a turn isn't.
    x.jump(2);
    walk(x, 1, 0);
    isWalked(x, 3, 2, 1, 3, 1);
    walk(x, 0, 2);
    isWalked(x, 0, 2, 0, 0, 1);
    // The same change a step earlier or later: back as early as may be, on as late.
    x.jump(1);
    walk(x, 1, 1, 0);
    isWalked(x, 3, 2, 1, 3, 1, 2);
    walk(x, 0, 1, 2);
    isWalked(x, 0, 2, 1, 0, 1, 5);
    // Without a place steps 1 and 2 cost 9 by any s, at a place 11: s is -1, then -2; by a dear jump it stays at -1.
    CharredRoll y = new CharredRoll(3, 12);
    y.wound(0, 1);
    y.jump(0);
    walk(y, 11, 11, 11);
    isWalked(y, 0, 29, 2, 0, -1000, -1000);
    y.jump(2);
    isWalked(y, 0, 31, 1, 0, -1000, -1000);
  }

  private static void slicesOfKTurnsOrMore() {
    DOC.says("Terms I", "of the SLICES that have K TURNS or more, K told");
    CharredRoll x = new CharredRoll(3, 12);
    int[] turns = {1, 2, 3, 4, 4, 4};
    for (int slice = 0; slice < 6; slice++) {
      x.wound(slice, turns[slice]);
      x.pin(slice, 0, 2 * slice);
    }
    // At place 0 radii 0 2 4 6 8 (10 can't be with four turns).
    DOC.is("slice 5 has none", x.flat(1, 0, 1), -1);
    x.wound(5, 1);
    DOC.is("all six: lengths 1 3 5 7 9 11", x.flat(1, 0, 1), 18);
    DOC.is("of two alike the least", x.flat(1, 0, 0), 5);
    DOC.is("3 5 7 9", x.flat(2, 0, 1), 8);
    DOC.is("3 5 7 9", x.flat(2, 0, 0), 5);
    DOC.is("5 7 9", x.flat(3, 0, 1), 4);
    DOC.is("5 7 9", x.flat(3, 0, 0), 7);
    DOC.is("7 9", x.flat(4, 0, 1), 2);
    DOC.is("7 9", x.flat(4, 0, 0), 7);
  }

  private static void leastWidth() {
    DOC.says("Terms I", "one by which STRETCH is least; of like ones the least");
    CharredRoll x = new CharredRoll(3, 12);
    for (int slice = 0; slice < 6; slice++) {
      x.wound(slice, 1);
    }
    x.wound(0, 2);
    x.pin(0, 0, 10);
    DOC.is("one slice alone", x.flat(2, 0, 0), 11);
    DOC.is("without stretch", x.flat(2, 0, 1), 0);
    DOC.is("without stretch up to the last", x.flat(2, 4, 2), 0);
    x.wound(1, 2);
    DOC.is("of two the lesser", x.flat(2, 0, 0), 1);
    DOC.is("as far as the other", x.flat(2, 0, 1), 10);
    x.wound(2, 2);
    x.pin(2, 0, 3);
    DOC.is("of three the middle one", x.flat(2, 0, 0), 4);
    DOC.is("stretch", x.flat(2, 0, 1), 10);
    DOC.is("of itself alone", x.flat(2, 0, 2), 10);
    DOC.is("length 1 at least", x.flat(1, 0, 0), 1);
    // Lengths 11 11 1, then 11 11 1 1: two of three have the greater, then as many have the lesser.
    CharredRoll y = new CharredRoll(3, 12);
    for (int slice = 0; slice < 6; slice++) {
      y.wound(slice, slice < 3 ? 2 : 1);
      y.pin(slice, 0, slice < 2 ? 10 : 0);
    }
    DOC.is("the greater of two and one", y.flat(2, 0, 0), 11);
    DOC.is("stretch", y.flat(2, 0, 1), 10);
    y.wound(3, 2);
    DOC.is("the lesser of two and two", y.flat(2, 0, 0), 1);
    DOC.is("stretch", y.flat(2, 0, 1), 20);
  }

  private static void newObject() {
    DOC.says("Promise 1", "A ANGLES (3 to 6)");
    int[][] angles = {{MIN, 3}, {-1, 3}, {0, 3}, {2, 3}, {3, 3}, {4, 4}, {5, 5}, {6, 6}, {7, 6}, {MAX, 6}};
    for (int[] a : angles) {
      DOC.is("angles " + a[0], new CharredRoll(a[0], 8).about(0), a[1]);
      DOC.is("radii beside", new CharredRoll(a[0], 8).about(1), 8);
    }
    DOC.says("Promise 1", "R RADII (4 to 12; others: the nearest of these)");
    int[][] radii = {{MIN, 4}, {-1, 4}, {0, 4}, {3, 4}, {4, 4}, {5, 5}, {11, 11}, {12, 12}, {13, 12}, {MAX, 12}};
    for (int[] r : radii) {
      DOC.is("radii " + r[0], new CharredRoll(5, r[0]).about(1), r[1]);
      DOC.is("angles beside", new CharredRoll(5, r[0]).about(0), 5);
    }
    DOC.says("Promise 1", "THE IMAGE is this");
    CharredRoll x = new CharredRoll(3, 4);
    x.grey(0, 0, 0, 9, 9);
    x.wound(1, 4);
    x.pin(2, 0, 1);
    x.step(1);
    x.jump(0);
    Rolls.read(x, "ink 1=1;");
    x.learnt(0, 15);
    x.bit(0, 0, true, 0);
    x.letter(1, 1);
    x.word(0, -1, -1, 1);
    x.chances(1, 1);
    x.part(1, 1, 0);
    x.fetch(0, 50);
    DOC.is("back", x.back(), 0);
    DOC.yes("it is as new", Arrays.equals(Rolls.held(x), Rolls.held(new CharredRoll(3, 4))));
    x.step(0);
    x.part(1, 1, 0);
    DOC.is("the jump is as new", x.walked(0, 3, 0), 1);
    DOC.is("fetch is as new", x.plan(1, 1), 1);
  }

  private static void grey() {
    DOC.says("Promise 2", "GREY and CRACK: true. False, changing nothing, for others");
    DOC.limits("grey", Rolls::some, (x, a) -> Edges.num(x.grey(a[0], a[1], a[2], a[3], a[4])), 0,
        new int[] {0, 1, 1, 9, 9}, new int[][] {{0, 5}, {0, 2}, {0, 3}, {0, 9}, {0, 9}});
    DOC.limits("grey", () -> new CharredRoll(6, 12), (x, a) -> Edges.num(x.grey(a[0], a[1], a[2], a[3], a[4])), 0,
        new int[] {5, 5, 11, 9, 9}, new int[][] {{0, 5}, {0, 5}, {0, 11}, {0, 9}, {0, 9}});
  }

  private static void column() {
    DOC.says("Promise 3", "GREY of all RADII of a SLICE and ANGLE as digits (the lowest RADIUS the lowest digit)");
    for (int r = 4; r <= 12; r++) {
      CharredRoll x = new CharredRoll(3, r);
      x.wound(0, 1);
      long top = (long) Math.pow(10, r - 1);
      DOC.yes("the lowest digit", x.column(0, 0, 9));
      DOC.is("the lowest radius", x.best(0, 100), 0);
      DOC.yes("the highest digit", x.column(0, 0, 9 * top));
      DOC.is("the highest radius", x.best(0, 100), r - 1);
      DOC.is("the lowest is 0 now", x.best(0, 1), 5);
      DOC.yes("all nines", x.column(0, 0, 10 * top - 1));
      DOC.is("the lowest again", x.best(0, 100), 0);
      DOC.is("nine everywhere", x.best(0, 1), SPIRALS[r - 4][0]);
      DOC.no("a digit too many", x.column(0, 0, 10 * top));
      DOC.no("one below", x.column(0, 0, -1));
      DOC.is("as it was", x.best(0, 0), 9);
      DOC.yes("nothing", x.column(0, 0, 0));
      DOC.is("nothing", x.best(0, 0), 0);
    }
    DOC.says("Promise 3", "CRACK as it is");
    CharredRoll x = new CharredRoll(3, 4);
    x.grey(0, 0, 0, 4, 7);
    Rolls.read(x, "ink crack=7;");
    x.column(0, 0, 1);
    DOC.is("crack", x.ink(0, 0, 0), 1);
    DOC.says("Promise 3", "False for others (0 to a number of R digits)");
    for (long digits : new long[] {10000, -1, Long.MIN_VALUE, Long.MAX_VALUE, 1L << 32, (1L << 32) + 9999, 99999}) {
      CharredRoll y = Rolls.some();
      DOC.no("column of " + digits, y.column(0, 0, digits));
      DOC.unchanged("column of " + digits, Rolls::some, y);
    }
    DOC.limits("column", Rolls::some, (y, a) -> Edges.num(y.column(a[0], a[1], 9999)), 0, new int[] {1, 1},
        new int[][] {{0, 5}, {0, 2}});
    DOC.limits("column", () -> new CharredRoll(6, 12), (y, a) -> Edges.num(y.column(a[0], a[1], 999999999999L)), 0,
        new int[] {1, 1}, new int[][] {{0, 5}, {0, 5}});
  }

  private static void wound() {
    DOC.says("Promise 4", "TURNS of a SLICE: true. False for others");
    DOC.limits("wound", Rolls::some, (x, a) -> Edges.num(x.wound(a[0], a[1])), 0, new int[] {3, 4},
        new int[][] {{0, 5}, {1, 4}});
    CharredRoll x = new CharredRoll(6, 12);
    for (int k = 4; k >= 1; k--) {
      DOC.yes("wound", x.wound(5, k));
      DOC.is("its last place", x.best(5, 99 + 6 * k), k - 1);
      DOC.is("none behind", x.best(5, 100 + 6 * k), -1);
    }
  }

  private static void pin() {
    DOC.says("Promise 5", "NONE for others (PLACE 0 .. 4 A - 1)");
    DOC.limits("pin", Rolls::some, (x, a) -> x.pin(a[0], a[1], a[2]), -1, new int[] {1, 1, 1},
        new int[][] {{0, 5}, {0, 11}, {0, 3}});
    DOC.limits("pin", () -> new CharredRoll(6, 12), (x, a) -> x.pin(a[0], a[1], a[2]), -1, new int[] {1, 1, 1},
        new int[][] {{0, 5}, {0, 23}, {0, 11}});
    for (int a = 3; a <= 6; a++) {
      CharredRoll x = new CharredRoll(a, 12);
      DOC.is("place 4 A", x.pin(0, 4 * a, 1), -1);
      DOC.is("place 4 A - 1", x.pin(0, 4 * a - 1, 7), 1);
      x.wound(0, 4);
      DOC.is("it holds", x.best(0, 99 + 4 * a), 7);
    }
    DOC.says("Promise 5", "if that SLICE and PLACE has one");
    DOC.refuses("pin", Rolls::some, (x, a) -> x.pin(a[0], a[1], a[2]), -1, 0, 5, 2);
    DOC.refuses("pin", Rolls::some, (x, a) -> x.pin(a[0], a[1], a[2]), -1, 0, 5, 3);
    DOC.taken("the place in another slice", Rolls.some().pin(1, 5, 2), -1);
    DOC.taken("another place of the slice", Rolls.some().pin(0, 4, 2), -1);
    DOC.says("Promise 5", "or if there are 20");
    CharredRoll x = twentyPins();
    DOC.is("twenty", x.about(3), 20);
    DOC.refuses("pin", EdgesOfSlicesTest::twentyPins, (y, a) -> y.pin(a[0], a[1], a[2]), -1, 4, 0, 2);
    DOC.refuses("pin", EdgesOfSlicesTest::twentyPins, (y, a) -> y.pin(a[0], a[1], a[2]), -1, 5, 11, 3);
    x.back();
    DOC.is("after fewer there is room again", x.pin(4, 0, 2), 2);
  }

  private static void best() {
    DOC.says("Promise 6", "100 + place: RADIUS of THE BEST, 200 + place: whether SURE (1, 0)");
    for (int a = 3; a <= 6; a++) {
      for (int k = 1; k <= 4; k++) {
        CharredRoll x = new CharredRoll(a, 4);
        x.wound(3, k);
        int last = k * a - 1;
        DOC.is("the first place", x.best(3, 100), 0);
        DOC.is("the last place", x.best(3, 100 + last), k - 1);
        DOC.is("whether sure", x.best(3, 200), k == 4 ? 1 : 0);
        DOC.is("whether sure", x.best(3, 200 + last), k == 4 ? 1 : 0);
        for (int what : new int[] {-1, 2, 99, 101 + last, 199, 201 + last, 300, -100, -200, MIN, MIN + 99, MIN + 199, MAX}) {
          DOC.is("what " + what, x.best(3, what), -1);
        }
      }
    }
    DOC.says("Promise 6", "NONE: there is no SPIRAL, and for others");
    CharredRoll x = new CharredRoll(3, 4);
    Rolls.tear(x, 2);
    for (int what : new int[] {0, 1, 100, 105, 200, 205}) {
      DOC.is("no spiral, " + what, x.best(2, what), -1);
      DOC.taken("a spiral beside, " + what, x.best(1, what), -1);
      DOC.taken("a spiral beside, " + what, x.best(3, what), -1);
      for (int slice : new int[] {-1, 6, MIN, MAX}) {
        DOC.is("slice " + slice, x.best(slice, what), -1);
      }
    }
  }

  private static void step() {
    DOC.says("Promise 7", "A step more of THE WALK: how many. NONE for others");
    DOC.limits("step", Rolls::some, (x, a) -> x.step(a[0]), -1, new int[] {0}, new int[][] {{0, 3}});
    DOC.limits("step", () -> new CharredRoll(6, 12), (x, a) -> x.step(a[0]), -1, new int[] {0}, new int[][] {{0, 11}});
    DOC.says("Promise 7", "or if there are 30");
    CharredRoll x = thirtySteps();
    DOC.is("thirty", x.about(4), 30);
    DOC.refuses("step", EdgesOfSlicesTest::thirtySteps, (y, a) -> y.step(a[0]), -1, 0);
    DOC.refuses("step", EdgesOfSlicesTest::thirtySteps, (y, a) -> y.step(a[0]), -1, 3);
  }

  private static void unwalk() {
    DOC.says("Promise 8", "THE WALK is empty: how many steps it had");
    CharredRoll x = new CharredRoll(3, 4);
    DOC.is("empty", x.unwalk(), 0);
    DOC.is("still empty", x.about(4), 0);
    x.step(0);
    DOC.is("one", x.unwalk(), 1);
    DOC.is("empty now", x.about(4), 0);
    DOC.is("empty now", x.walked(0, 0, 0), -1000);
    DOC.is("empty", x.unwalk(), 0);
    CharredRoll y = thirtySteps();
    DOC.is("full", y.unwalk(), 30);
    DOC.is("the first again", y.step(1), 1);
    DOC.is("nothing of the earlier ones", y.walked(0, 0, 101), -1000);
    x.jump(1);
    x.unwalk();
    walk(x, 0, 0, 0, 1, 1, 1, 1);
    DOC.is("the jump stays", x.walked(0, 0, 0), 1);
  }

  private static void jump() {
    DOC.says("Promise 9", "JUMP: true. False for others");
    DOC.limits("jump", Rolls::some, (x, a) -> Edges.num(x.jump(a[0])), 0, new int[] {0}, new int[][] {{0, 99}});
  }

  private static void walked() {
    DOC.says("Promise 10", "from a PLACE that is there");
    for (int k = 1; k <= 4; k++) {
      CharredRoll x = new CharredRoll(4, 5);
      x.wound(5, k);
      x.step(0);
      DOC.is("the first place", x.walked(5, 0, 100), 0);
      DOC.is("the last place", x.walked(5, 4 * k - 1, 100), 4 * k - 1);
      for (int place : new int[] {-1, 4 * k, MIN, MAX}) {
        for (int what : new int[] {0, 1, 100}) {
          DOC.is("from " + place, x.walked(5, place, what), -1000);
        }
      }
    }
    DOC.says("Promise 10", "100 + step: PLACE of a step (-1000 where there is no such PLACE)");
    CharredRoll x = new CharredRoll(3, 4);
    x.jump(99);
    walk(x, 0, 0, 0);
    isWalked(x, 4, 2 + 9, 0, 4, 5, -1000);
    DOC.is("behind the last step", x.walked(0, 4, 103), -1000);
    CharredRoll full = thirtySteps();
    DOC.is("the first of thirty", full.walked(0, 1, 100), 1);
    full.jump(99);
    full.wound(0, 1);
    DOC.is("the thirtieth of thirty", full.walked(4, 0, 129), -1000);
    DOC.is("behind it", full.walked(4, 0, 130), -1000);
    CharredRoll round = new CharredRoll(3, 4);
    round.jump(0);
    for (int i = 0; i < 30; i++) {
      round.step(0);
    }
    DOC.is("a place of the thirtieth", round.walked(0, 0, 129), 2);
    DOC.is("nothing behind it", round.walked(0, 0, 130), -1000);
    DOC.says("Promise 10", "-1000 for others, an empty WALK, and without SPIRALS");
    for (int what : new int[] {-1, 2, 99, 103, 104, 199, MIN, MAX}) {
      DOC.is("what " + what, x.walked(0, 0, what), -1000);
    }
    for (int slice : new int[] {-1, 6, MIN, MAX}) {
      DOC.is("slice " + slice, x.walked(slice, 0, 0), -1000);
    }
    Rolls.tear(x, 1);
    for (int what : new int[] {0, 1, 100}) {
      DOC.is("without spirals", x.walked(1, 0, what), -1000);
      DOC.is("a slice without steps to walk", new CharredRoll(3, 4).walked(0, 0, what), -1000);
    }
    DOC.is("with spirals", x.walked(2, 0, 0), 0);
    x.unwalk();
    DOC.is("an empty walk", x.walked(2, 0, 0), -1000);
  }

  private static void flat() {
    DOC.says("Promise 11", "NONE for others (i 0 .. K A - 2)");
    for (int a = 3; a <= 6; a++) {
      CharredRoll x = new CharredRoll(a, 4);
      x.wound(4, 4);
      for (int k = 1; k <= 4; k++) {
        DOC.is("the first", x.flat(k, 0, 0), 1);
        DOC.taken("the last", x.flat(k, k * a - 2, 0), -1);
        for (int i : new int[] {-1, k * a - 1, k * a, MIN, MAX}) {
          DOC.is("flat(" + k + ", " + i + ")", x.flat(k, i, 0), -1);
        }
      }
      DOC.is("the last of four turns", x.flat(4, 4 * a - 2, 0), 4);
      for (int k : new int[] {0, 5, -1, MIN, MAX}) {
        DOC.is("k " + k, x.flat(k, 0, 0), -1);
      }
      for (int what : new int[] {-1, 3, MIN, MAX}) {
        DOC.is("what " + what, x.flat(2, 0, what), -1);
      }
    }
    DOC.says("Promise 11", "STRETCH of it (1), of all up to it and it (2)");
    CharredRoll x = new CharredRoll(3, 4);
    x.pin(0, 0, 2);
    DOC.is("of the first alone", x.flat(2, 0, 2), x.flat(2, 0, 1));
    int sum = 0;
    for (int i = 0; i < 5; i++) {
      sum += x.flat(2, i, 1);
      DOC.is("up to " + i, x.flat(2, i, 2), sum);
    }
    DOC.says("Promise 11", "if no SLICE has K TURNS");
    for (int slice = 0; slice < 6; slice++) {
      x.wound(slice, 1);
    }
    DOC.is("one", x.flat(1, 0, 0), 1);
    for (int k = 2; k <= 4; k++) {
      DOC.is("none has " + k, x.flat(k, 0, 0), -1);
      x.wound(5, k);
      DOC.is("one has " + k, x.flat(k, 0, 0), 1);
    }
    DOC.says("Promise 11", "and if one of them has no SPIRAL");
    CharredRoll y = new CharredRoll(3, 4);
    y.wound(5, 3);
    Rolls.tear(y, 4);
    for (int what = 0; what < 3; what++) {
      DOC.is("it has as many turns", y.flat(2, 0, what), -1);
      DOC.is("it has more", y.flat(1, 0, what), -1);
      DOC.taken("it has fewer", y.flat(3, 0, what), -1);
    }
    y.wound(4, 1);
    DOC.taken("it has fewer", y.flat(2, 0, 0), -1);
    DOC.is("it has as many", y.flat(1, 0, 0), -1);
  }
}
