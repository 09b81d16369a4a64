import java.util.SplittableRandom;
import java.util.TreeMap;

/** Many texts, read by CharredRoll and by PlainRoll: the same FAULT at the same place, or the same INK everywhere. */
public final class TextsTest {
  private static final int TEXTS_OF_A_ROLL = 5;

  public static void main(String[] args) {
    int rounds = args.length > 0 ? Integer.parseInt(args[0]) : 12000;
    SplittableRandom dice = new SplittableRandom(7);
    CharredRoll roll = null;
    PlainRoll plain = null;
    int wrong = 0;
    TreeMap<Integer, Integer> faults = new TreeMap<>();
    for (int i = 0; i < rounds && wrong < 5; i++) {
      // A few texts one behind the other, but no more calls than an object is made for.
      if (i % TEXTS_OF_A_ROLL == 0) {
        roll = new CharredRoll(4, 6);
        plain = new PlainRoll(4, 6);
        tell(dice, roll, plain);
      }
      String text = new Texts(dice).any();
      if (!same(roll, plain, text)) {
        wrong++;
        System.out.println("not the same of: " + text);
      }
      faults.merge(plain.fault(0), 1, Integer::sum);
    }
    System.out.println(rounds + " texts, " + wrong + " wrong; texts by fault: " + faults);
    if (wrong != 0 || faults.size() != 5) {
      System.exit(1);
    }
  }

  private static void tell(SplittableRandom dice, CharredRoll roll, PlainRoll plain) {
    for (int i = 0; i < 150; i++) {
      int slice = dice.nextInt(6);
      int angle = dice.nextInt(4);
      int radius = dice.nextInt(6);
      int grey = dice.nextInt(10);
      int crack = dice.nextInt(10);
      roll.grey(slice, angle, radius, grey, crack);
      plain.grey(slice, angle, radius, grey, crack);
    }
    roll.image();
    plain.image();
  }

  private static boolean same(CharredRoll roll, PlainRoll plain, String text) {
    roll.back();
    plain.x = plain.image.copy();
    for (int i = 0; i < text.length(); i += 20) {
      int[] f = new int[5];
      for (int j = 0; j < 20; j++) {
        f[j / 4] = f[j / 4] << 8 | (i + j < text.length() ? text.charAt(i + j) & 255 : 0);
      }
      roll.feed(f[0], f[1], f[2], f[3], f[4]);
      plain.feed(f[0], f[1], f[2], f[3], f[4]);
    }
    roll.end(text.length());
    plain.end(text.length());
    boolean same = roll.reader() == plain.reader();
    same &= roll.fault(0) == plain.fault(0) && roll.fault(1) == plain.fault(1);
    for (int slice = 0; slice < 6; slice++) {
      for (int place = 0; place < 8; place++) {
        same &= roll.ink(0, slice, place) == plain.ink(0, slice, place);
      }
    }
    return same;
  }
}
