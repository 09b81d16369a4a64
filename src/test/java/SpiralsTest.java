import java.util.SplittableRandom;

/** BEST of every number of ANGLES, RADII and TURNS, with much GREY, little, none, and PINS, held against PlainRoll. */
public final class SpiralsTest {
  public static void main(String[] args) {
    SplittableRandom dice = new SplittableRandom(11);
    int wrong = 0;
    int slices = 0;
    int without = 0;
    for (int a = 3; a <= 6; a++) {
      for (int r = 4; r <= 12; r++) {
        for (int round = 0; round < 4; round++) {
          CharredRoll roll = new CharredRoll(a, r);
          PlainRoll plain = new PlainRoll(a, r);
          // Slices of one roll have different turns, one found behind the other.
          for (int slice = 0; slice < 6; slice++) {
            int k = 1 + (round + slice) % 4;
            tell(dice, roll, plain, slice, k);
            slices++;
            without += plain.best(slice, 0) == -1 ? 1 : 0;
            wrong += differences(roll, plain, slice, k * a);
          }
        }
      }
    }
    System.out.println(slices + " slices, " + without + " of them without a spiral; " + wrong + " wrong answers");
    if (wrong != 0) {
      System.exit(1);
    }
  }

  private static void tell(SplittableRandom dice, CharredRoll roll, PlainRoll plain, int slice, int k) {
    int most = new int[] {1, 2, 2, 3, 10, 10}[slice];
    for (int angle = 0; angle < plain.a; angle++) {
      long digits = 0;
      for (int i = 0; i < plain.r; i++) {
        digits = digits * 10 + dice.nextInt(most);
      }
      roll.column(slice, angle, digits);
      plain.column(slice, angle, digits);
    }
    roll.wound(slice, k);
    plain.wound(slice, k);
    int pins = slice % 2 == 1 ? dice.nextInt(4) : 0;
    for (int i = 0; i < pins; i++) {
      int place = dice.nextInt(k * plain.a);
      int radius = Math.min(plain.r - 1, place / plain.a + dice.nextInt(plain.r - k + 1));
      roll.pin(slice, place, radius);
      plain.pin(slice, place, radius);
    }
  }

  private static int differences(CharredRoll roll, PlainRoll plain, int slice, int places) {
    int n = 0;
    for (int what : new int[] {0, 1}) {
      n += roll.best(slice, what) == plain.best(slice, what) ? 0 : 1;
    }
    for (int place = 0; place <= places; place++) {
      n += roll.best(slice, 100 + place) == plain.best(slice, 100 + place) ? 0 : 1;
      n += roll.best(slice, 200 + place) == plain.best(slice, 200 + place) ? 0 : 1;
    }
    if (n != 0) {
      System.out.println(plain.a + " angles, " + plain.r + " radii, slice " + slice + ": " + n + " answers differ");
    }
    return n;
  }
}
