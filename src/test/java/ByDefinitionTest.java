import java.util.ArrayList;
import java.util.Arrays;
import java.util.List;
import java.util.SplittableRandom;

/**
 * Terms I by their own words, on small rolls: every row of RADII is tried whether it is a SPIRAL, and every row of
 * TURNS gone over what it costs; no window, no memory, nothing left out ahead of time.
 */
public final class ByDefinitionTest {
  /** A, R and the greatest K for which all rows of RADII can be gone through. */
  private static final int[][] SIZES = {{3, 4, 3}, {3, 5, 2}, {4, 4, 2}, {3, 6, 2}, {5, 4, 1}, {6, 5, 1}};

  private final SplittableRandom dice;
  private final CharredRoll roll;
  private final int a;
  private final int r;
  private final int[] turns = new int[6];
  private final int[][][] grey;
  private final int[][] pinned;
  private final List<List<int[]>> best = new ArrayList<>();
  private static int answers = 0;
  private static int wrong = 0;

  private ByDefinitionTest(long seed, int a, int r, int mostTurns) {
    dice = new SplittableRandom(seed);
    roll = new CharredRoll(a, r);
    this.a = a;
    this.r = r;
    grey = new int[6][a][r];
    pinned = new int[6][4 * a];
    for (int slice = 0; slice < 6; slice++) {
      Arrays.fill(pinned[slice], -1);
      turns[slice] = 1 + dice.nextInt(mostTurns);
      roll.wound(slice, turns[slice]);
      tellGrey(slice);
      tellPins(slice);
      best.add(bestOf(slice));
    }
  }

  public static void main(String[] args) {
    for (int[] size : SIZES) {
      for (int round = 0; round < 12; round++) {
        ByDefinitionTest test = new ByDefinitionTest(round, size[0], size[1], size[2]);
        test.spirals();
        test.flat();
        test.walks();
      }
    }
    System.out.println(answers + " answers, " + wrong + " wrong");
    if (wrong != 0) {
      System.exit(1);
    }
  }

  private void is(String call, int got, int due) {
    answers++;
    if (got != due) {
      wrong++;
      System.out.println(a + " angles, " + r + " radii: " + call + " answered " + got + ", due is " + due);
    }
  }

  private void tellGrey(int slice) {
    int most = dice.nextInt(4) == 0 ? 10 : 3;
    for (int angle = 0; angle < a; angle++) {
      long digits = 0;
      for (int radius = r - 1; radius >= 0; radius--) {
        grey[slice][angle][radius] = dice.nextInt(most);
        digits = digits * 10 + grey[slice][angle][radius];
      }
      // A call for each RADIUS would be more than an object is made for.
      roll.column(slice, angle, digits);
    }
  }

  /** Some of them at PLACES that aren't there. */
  private void tellPins(int slice) {
    int pins = dice.nextInt(4) == 0 ? 3 : dice.nextInt(2);
    for (int i = 0; i < pins; i++) {
      int place = dice.nextInt(4 * a);
      int radius = dice.nextInt(r);
      if (roll.pin(slice, place, radius) != -1) {
        pinned[slice][place] = radius;
      }
    }
  }

  private List<int[]> bestOf(int slice) {
    List<int[]> found = new ArrayList<>();
    int[] row = new int[turns[slice] * a];
    int most = -1;
    do {
      if (isSpiral(slice, row)) {
        int fit = fitOf(slice, row);
        if (fit > most) {
          found.clear();
          most = fit;
        }
        if (fit == most) {
          found.add(row.clone());
        }
      }
    } while (another(row));
    return found;
  }

  /** The next row of RADII, the last PLACE the fastest: so rows come with the least at PLACE 0 first, then at 1. */
  private boolean another(int[] row) {
    for (int i = row.length - 1; i >= 0; i--) {
      row[i]++;
      if (row[i] < r) {
        return true;
      }
      row[i] = 0;
    }
    return false;
  }

  private boolean isSpiral(int slice, int[] row) {
    for (int i = 0; i < row.length; i++) {
      if (i > 0 && Math.abs(row[i] - row[i - 1]) > 1) {
        return false;
      }
      if (i >= a && row[i] <= row[i - a]) {
        return false;
      }
      if (pinned[slice][i] != -1 && pinned[slice][i] != row[i]) {
        return false;
      }
    }
    return true;
  }

  private int fitOf(int slice, int[] row) {
    int fit = 0;
    for (int i = 0; i < row.length; i++) {
      fit += grey[slice][i % a][row[i]];
    }
    return fit;
  }

  private void spirals() {
    for (int slice = 0; slice < 6; slice++) {
      List<int[]> those = best.get(slice);
      boolean none = those.isEmpty();
      is("fit of " + slice, roll.best(slice, 0), none ? -1 : fitOf(slice, those.get(0)));
      is("how many of " + slice, roll.best(slice, 1), none ? -1 : those.size());
      for (int i = 0; i < turns[slice] * a; i++) {
        int place = i;
        boolean sure = !none && those.stream().allMatch(row -> row[place] == those.get(0)[place]);
        is("radius of " + slice + " at " + i, roll.best(slice, 100 + i), none ? -1 : those.get(0)[i]);
        is("sure of " + slice + " at " + i, roll.best(slice, 200 + i), none ? -1 : sure ? 1 : 0);
      }
    }
  }

  private void flat() {
    for (int k = 1; k <= 4; k++) {
      int together = 0;
      for (int i = 0; i < k * a - 1; i++) {
        List<Integer> lengths = lengthsAt(k, i);
        int width = -1;
        int stretch = -1;
        for (int w = 1; lengths != null && w <= r; w++) {
          int own = w;
          int its = lengths.stream().mapToInt(length -> Math.abs(length - own)).sum();
          if (lengths.contains(w) && (width == -1 || its < stretch)) {
            width = w;
            stretch = its;
          }
        }
        together += stretch;
        is("flat " + k + " " + i, roll.flat(k, i, 0), width);
        is("stretch " + k + " " + i, roll.flat(k, i, 1), stretch);
        is("stretch up to " + k + " " + i, roll.flat(k, i, 2), width == -1 ? -1 : together);
      }
    }
  }

  /** Null if no SLICE has so many TURNS, or one of them has no SPIRAL. */
  private List<Integer> lengthsAt(int k, int i) {
    List<Integer> lengths = new ArrayList<>();
    for (int slice = 0; slice < 6; slice++) {
      if (turns[slice] >= k) {
        if (best.get(slice).isEmpty()) {
          return null;
        }
        lengths.add(best.get(slice).get(0)[i] + 1);
      }
    }
    return lengths.isEmpty() ? null : lengths;
  }

  private void walks() {
    int steps = 1 + dice.nextInt(6);
    int jump = dice.nextInt(5);
    int[] walk = new int[steps];
    roll.jump(jump);
    for (int t = 0; t < steps; t++) {
      walk[t] = dice.nextInt(r);
      roll.step(walk[t]);
    }
    for (int slice = 0; slice < 6; slice++) {
      for (int place = 0; place < turns[slice] * a; place += 2) {
        explain(slice, place, walk, jump);
      }
    }
  }

  private void explain(int slice, int place, int[] walk, int jump) {
    int least = Integer.MAX_VALUE;
    int[] over = null;
    boolean none = best.get(slice).isEmpty();
    int rows = (int) Math.pow(3, walk.length - 1);
    // The earliest change is the highest digit, so the row with the lesser s at the first step comes first.
    for (int row = 0; row < rows && !none; row++) {
      int[] s = new int[walk.length];
      int rest = row;
      int unit = rows;
      for (int t = 1; t < walk.length; t++) {
        unit /= 3;
        s[t] = s[t - 1] + rest / unit - 1;
        rest %= unit;
      }
      int cost = costOf(slice, place, walk, s, jump);
      if (cost < least) {
        least = cost;
        over = s;
      }
    }
    String from = "walked " + slice + " " + place;
    is(from, roll.walked(slice, place, 0), none ? -1000 : least);
    is(from + " changes", roll.walked(slice, place, 1), none ? -1000 : changes(over));
    for (int t = 0; t < walk.length; t++) {
      int at = none ? -1 : place + t + a * over[t];
      boolean there = at >= 0 && at < turns[slice] * a;
      is(from + " step " + t, roll.walked(slice, place, 100 + t), there ? at : -1000);
    }
  }

  private int costOf(int slice, int place, int[] walk, int[] s, int jump) {
    int cost = changes(s) * jump;
    int[] the = best.get(slice).get(0);
    for (int t = 0; t < walk.length; t++) {
      int at = place + t + a * s[t];
      cost += at >= 0 && at < the.length ? Math.abs(walk[t] - the[at]) : 9;
    }
    return cost;
  }

  private static int changes(int[] s) {
    int n = 0;
    for (int t = 1; t < s.length; t++) {
      n += s[t] == s[t - 1] ? 0 : 1;
    }
    return n;
  }
}
