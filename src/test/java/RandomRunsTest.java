import java.util.ArrayList;
import java.util.List;
import java.util.SplittableRandom;

/** Long runs of calls by seeds, on CharredRoll and on PlainRoll: every answer must be the same. */
public final class RandomRunsTest {
  private final SplittableRandom dice;
  private final CharredRoll roll;
  private final PlainRoll plain;
  private final int a;
  private final int r;
  private final List<String> told = new ArrayList<>();
  private boolean wrong;
  private int calls;

  private RandomRunsTest(long seed, int angles, int radii) {
    dice = new SplittableRandom(seed);
    roll = new CharredRoll(angles, radii);
    plain = new PlainRoll(angles, radii);
    a = plain.a;
    r = plain.r;
  }

  public static void main(String[] args) {
    int bad = 0;
    int all = 0;
    int rounds = args.length > 0 ? Integer.parseInt(args[0]) : 400;
    for (int i = 0; i < rounds; i++) {
      SplittableRandom size = new SplittableRandom(1000 + i);
      boolean large = i % 40 == 39;
      int angles = large ? size.nextInt(5, 8) : size.nextInt(2, 5);
      int radii = large ? size.nextInt(9, 14) : size.nextInt(3, 9);
      RandomRunsTest run = new RandomRunsTest(i, angles, radii);
      // The last pick may make several calls, and an object is made for 512.
      run.go(i % 5, large ? 150 : 480);
      all += run.calls;
      if (run.wrong) {
        bad++;
        System.out.println("run " + i + " (" + angles + ", " + radii + "):");
        run.told.forEach(line -> System.out.println("  " + line));
        if (bad == 3) {
          break;
        }
      }
    }
    System.out.println(all + " calls, " + bad + " runs with a wrong answer");
    if (bad != 0) {
      System.exit(1);
    }
  }

  private void same(String call, long got, long due) {
    calls++;
    told.add(call + " = " + got + (got == due ? "" : ", due is " + due));
    wrong |= got != due;
  }

  private static int asInt(boolean b) {
    return b ? 1 : 0;
  }

  /** Mostly from low to high, sometimes just outside, seldom far away. */
  private int some(int low, int high) {
    int odd = dice.nextInt(60);
    if (odd == 0) {
      return low - 1;
    }
    if (odd == 1) {
      return high + 1;
    }
    if (odd == 2) {
      int[] far = {Integer.MIN_VALUE, Integer.MAX_VALUE, Integer.MIN_VALUE + 100, Integer.MAX_VALUE - 1, -100, 1000};
      return far[dice.nextInt(far.length)];
    }
    return dice.nextInt(low, high + 1);
  }

  private void go(int topic, int most) {
    setUp(topic);
    while (calls < most && !wrong) {
      int pick = dice.nextInt(100);
      if (pick < 12) {
        tellScan();
      } else if (pick < 60) {
        ask(dice.nextInt(3) == 0 ? dice.nextInt(5) : topic);
      } else if (pick < 90) {
        tell(dice.nextInt(3) == 0 ? dice.nextInt(5) : topic);
      } else if (pick < 97) {
        int what = some(0, 24);
        same("about(" + what + ")", roll.about(what), plain.about(what));
      } else if (pick == 97) {
        same("image()", roll.image(), plain.image());
      } else {
        same("back()", roll.back(), plain.back());
      }
    }
  }

  private void setUp(int topic) {
    for (int slice = 0; slice < 6; slice++) {
      for (int angle = 0; angle < a; angle++) {
        column(slice, angle);
      }
    }
    for (int i = 0; i < 20; i++) {
      greyAndCrack();
    }
    if (topic >= 2) {
      text();
      text();
      for (int i = 0; i < 6; i++) {
        tellLetter();
      }
      for (int i = 0; i < 6; i++) {
        tellWord();
      }
    }
    if (dice.nextInt(3) == 0) {
      same("image()", roll.image(), plain.image());
    }
  }

  private void column(int slice, int angle) {
    long digits = 0;
    int most = dice.nextInt(3) == 0 ? 2 : 10;
    for (int i = 0; i < r; i++) {
      digits = digits * 10 + dice.nextInt(most);
    }
    if (dice.nextInt(50) == 0) {
      digits = dice.nextBoolean() ? -1 : digits * 100;
    }
    same("column(" + slice + ", " + angle + ", " + digits + ")",
        asInt(roll.column(slice, angle, digits)), asInt(plain.column(slice, angle, digits)));
  }

  private void greyAndCrack() {
    int slice = some(0, 5);
    int angle = some(0, a - 1);
    int radius = some(0, r - 1);
    int grey = some(0, 9);
    int crack = some(0, 9);
    same("grey(" + slice + ", " + angle + ", " + radius + ", " + grey + ", " + crack + ")",
        asInt(roll.grey(slice, angle, radius, grey, crack)), asInt(plain.grey(slice, angle, radius, grey, crack)));
  }

  private void tellScan() {
    int pick = dice.nextInt(10);
    if (pick < 4) {
      greyAndCrack();
    } else if (pick < 6) {
      column(some(0, 5), some(0, a - 1));
    } else if (pick < 8) {
      int slice = some(0, 5);
      int k = some(1, a > 4 ? 4 : r > 6 ? 4 : 3);
      same("wound(" + slice + ", " + k + ")", asInt(roll.wound(slice, k)), asInt(plain.wound(slice, k)));
    } else {
      int slice = some(0, 5);
      int place = some(0, 4 * a - 1);
      int radius = some(0, r - 1);
      if (dice.nextInt(4) != 0 && plain.best(slice, 100 + Math.abs(place % 100)) != -1) {
        radius = plain.best(slice, 100 + Math.abs(place % 100));
      }
      same("pin(" + slice + ", " + place + ", " + radius + ")",
          roll.pin(slice, place, radius), plain.pin(slice, place, radius));
    }
  }

  private void ask(int topic) {
    switch (topic) {
      case 0 -> askBest();
      case 1 -> askWalk();
      case 2 -> askReader();
      case 3 -> askBoxes();
      default -> askRing();
    }
  }

  private void tell(int topic) {
    switch (topic) {
      case 0, 1 -> tellWalk();
      case 2 -> tellReader();
      case 3 -> tellLetters();
      default -> tellRing();
    }
  }

  private void askBest() {
    int slice = some(0, 5);
    if (dice.nextInt(10) < 7) {
      int what = dice.nextInt(3) == 0 ? some(0, 1) : some(0, 4 * a - 1) + (dice.nextBoolean() ? 100 : 200);
      same("best(" + slice + ", " + what + ")", roll.best(slice, what), plain.best(slice, what));
    } else {
      int k = some(1, 4);
      int i = some(0, Math.max(1, k % 10) * a - 2);
      int what = some(0, 2);
      same("flat(" + k + ", " + i + ", " + what + ")", roll.flat(k, i, what), plain.flat(k, i, what));
    }
  }

  private void askWalk() {
    int slice = some(0, 5);
    int place = some(0, Math.max(1, plain.places(slice)) - 1);
    int what = dice.nextInt(3) == 0 ? some(0, 1) : 100 + some(0, Math.max(0, plain.x.walk.size() - 1));
    same("walked(" + slice + ", " + place + ", " + what + ")",
        roll.walked(slice, place, what), plain.walked(slice, place, what));
  }

  private void tellWalk() {
    int pick = dice.nextInt(25);
    if (pick == 0) {
      same("unwalk()", roll.unwalk(), plain.unwalk());
    } else if (pick < 3) {
      int cost = dice.nextBoolean() ? some(0, 4) : some(0, 99);
      same("jump(" + cost + ")", asInt(roll.jump(cost)), asInt(plain.jump(cost)));
    } else {
      int radius = some(0, r - 1);
      same("step(" + radius + ")", roll.step(radius), plain.step(radius));
    }
  }

  private void text() {
    String text = new Texts(dice).any();
    if (dice.nextInt(12) != 0) {
      same("end(0)", roll.end(0), plain.end(0));
    }
    int before = plain.tape.size();
    for (int i = 0; i < text.length(); i += 20) {
      int[] f = new int[5];
      for (int j = 0; j < 20; j++) {
        f[j / 4] = f[j / 4] << 8 | (i + j < text.length() ? text.charAt(i + j) & 255 : 0);
      }
      same("feed(" + f[0] + ", " + f[1] + ", " + f[2] + ", " + f[3] + ", " + f[4] + ")",
          roll.feed(f[0], f[1], f[2], f[3], f[4]), plain.feed(f[0], f[1], f[2], f[3], f[4]));
    }
    int n = dice.nextInt(20) == 0 ? some(0, 300) : before + text.length();
    same("end(" + n + ")", roll.end(n), plain.end(n));
    same("reader() of " + text, roll.reader(), plain.reader());
    same("fault(0)", roll.fault(0), plain.fault(0));
    same("fault(1)", roll.fault(1), plain.fault(1));
  }

  private void tellReader() {
    int pick = dice.nextInt(10);
    if (pick < 3) {
      if (plain.x.readers.size() == 4 && dice.nextInt(6) != 0) {
        return;
      }
      text();
    } else if (pick < 8) {
      int slice = some(0, 5);
      int place = some(0, 4 * a - 1);
      boolean ink = dice.nextBoolean();
      int group = some(0, 3);
      same("bit(" + slice + ", " + place + ", " + ink + ", " + group + ")",
          roll.bit(slice, place, ink, group), plain.bit(slice, place, ink, group));
    } else if (pick == 8) {
      int reader = some(0, 3);
      int groups = some(0, 15);
      same("learnt(" + reader + ", " + groups + ")",
          asInt(roll.learnt(reader, groups)), asInt(plain.learnt(reader, groups)));
    } else {
      int what = some(0, 1);
      same("fault(" + what + ")", roll.fault(what), plain.fault(what));
    }
  }

  private int someReader() {
    return some(0, Math.max(0, plain.x.readers.size() - 1));
  }

  private void askReader() {
    int reader = someReader();
    if (dice.nextInt(3) != 0) {
      int slice = some(0, 5);
      int place = some(0, Math.max(1, plain.places(slice)) - 1);
      same("ink(" + reader + ", " + slice + ", " + place + ")",
          roll.ink(reader, slice, place), plain.ink(reader, slice, place));
    } else {
      boolean own = dice.nextBoolean();
      int what = some(0, 1);
      same("right(" + reader + ", " + own + ", " + what + ")",
          roll.right(reader, own, what), plain.right(reader, own, what));
    }
  }

  private void tellLetter() {
    int bits = some(0, 511);
    if (dice.nextBoolean()) {
      bits = some(0, 7) * 73;
    }
    int weight = some(1, 99);
    same("letter(" + bits + ", " + weight + ")", roll.letter(bits, weight), plain.letter(bits, weight));
  }

  private void tellWord() {
    int most = Math.max(0, plain.x.letters.size() - 1);
    int one = some(0, most);
    int two = dice.nextInt(3) == 0 ? -1 : some(0, most);
    int three = dice.nextBoolean() ? -1 : some(0, most);
    int weight = some(1, 99);
    same("word(" + one + ", " + two + ", " + three + ", " + weight + ")",
        roll.word(one, two, three, weight), plain.word(one, two, three, weight));
  }

  private void tellLetters() {
    int pick = dice.nextInt(10);
    if (pick < 4) {
      tellLetter();
    } else if (pick < 8) {
      tellWord();
    } else {
      int hit = some(1, 3);
      int miss = some(1, 3);
      same("chances(" + hit + ", " + miss + ")", asInt(roll.chances(hit, miss)), asInt(plain.chances(hit, miss)));
    }
  }

  private void askBoxes() {
    int reader = someReader();
    int slice = some(0, 3);
    int place = some(0, a > 3 ? 4 : 3);
    int pick = dice.nextInt(10);
    if (pick < 3) {
      int what = dice.nextBoolean() ? some(0, 1) : some(100, 111);
      same("box(" + reader + ", " + slice + ", " + place + ", " + what + ")",
          roll.box(reader, slice, place, what), plain.box(reader, slice, place, what));
    } else if (pick < 6) {
      int what = dice.nextBoolean() ? some(0, 1) : some(100, 111);
      same("joined(" + reader + ", " + slice + ", " + place + ", " + what + ")",
          roll.joined(reader, slice, place, what), plain.joined(reader, slice, place, what));
    } else if (pick < 7) {
      int q = some(0, 10);
      int m = some(0, 9);
      same("seen(" + q + ", " + m + ")", roll.seen(q, m), plain.seen(q, m));
    } else {
      int readers = some(0, (1 << plain.x.readers.size()) - 1);
      int p = dice.nextBoolean() ? some(0, 300) : some(0, 1000);
      int m = dice.nextBoolean() ? 1 : some(1, 4);
      same("printed(" + readers + ", " + slice + ", " + place + ", " + p + ", " + m + ")",
          roll.printed(readers, slice, place, p, m), plain.printed(readers, slice, place, p, m));
    }
  }

  private void tellRing() {
    if (dice.nextInt(3) != 0) {
      int hours = dice.nextBoolean() ? some(1, 8) : some(1, 50);
      int worth = dice.nextBoolean() ? some(1, 9) : some(1, 999);
      int to = some(0, 3);
      if (plain.x.parts.size() < 12 || dice.nextInt(10) == 0) {
        same("part(" + hours + ", " + worth + ", " + to + ")",
            roll.part(hours, worth, to), plain.part(hours, worth, to));
      }
    } else {
      int to = some(0, 3);
      int hours = dice.nextBoolean() ? some(0, 6) : some(0, 50);
      same("fetch(" + to + ", " + hours + ")", asInt(roll.fetch(to, hours)), asInt(plain.fetch(to, hours)));
    }
  }

  private void askRing() {
    if (dice.nextInt(3) != 0) {
      int hours = dice.nextBoolean() ? some(0, 60) : some(0, 400);
      int what = some(0, 2);
      same("plan(" + hours + ", " + what + ")", roll.plan(hours, what), plain.plan(hours, what));
    } else {
      int outer = dice.nextBoolean() ? some(1, 100) : some(1, 9999);
      int low = dice.nextBoolean() ? some(1, 10) : some(1, 999);
      int high = dice.nextInt(8) == 0 ? some(1, 999) : some(Math.max(1, Math.min(999, low)), 999);
      int least = dice.nextInt(8) == 0 ? some(1, 9999) : some(1, Math.max(1, Math.min(9999, outer)));
      boolean greatest = dice.nextBoolean();
      same("length(" + outer + ", " + low + ", " + high + ", " + least + ", " + greatest + ")",
          roll.length(outer, low, high, least, greatest), plain.length(outer, low, high, least, greatest));
    }
  }
}
