import java.math.BigInteger;
import java.util.ArrayList;
import java.util.Arrays;
import java.util.HashMap;
import java.util.List;
import java.util.Map;
import java.util.TreeMap;

/**
 * The document once more, said as plainly and as slowly as may be, to hold CharredRoll against: recursion with
 * memory for SPIRALS, a parser that goes down the grammar, all sets of PARTS, and so on.
 */
final class PlainRoll {
  static final int NONE = -1;

  /** What an image holds. */
  static final class All {
    int[][][] grey;
    int[][][] crack;
    int[] turns = {2, 2, 2, 2, 2, 2};
    TreeMap<List<Integer>, Integer> pins = new TreeMap<>(PlainRoll::order);
    List<Integer> walk = new ArrayList<>();
    int jump = 5;
    List<List<Clause>> readers = new ArrayList<>();
    List<Integer> learnt = new ArrayList<>();
    TreeMap<List<Integer>, int[]> bits = new TreeMap<>(PlainRoll::order);
    List<int[]> letters = new ArrayList<>();
    List<int[]> words = new ArrayList<>();
    int hit = 3;
    int miss = 1;
    List<int[]> parts = new ArrayList<>();
    int[] fetch = new int[4];

    All copy() {
      All c = new All();
      c.grey = deep(grey);
      c.crack = deep(crack);
      c.turns = turns.clone();
      c.pins.putAll(pins);
      c.walk.addAll(walk);
      c.jump = jump;
      c.readers.addAll(readers);
      c.learnt.addAll(learnt);
      c.bits.putAll(bits);
      c.letters.addAll(letters);
      c.words.addAll(words);
      c.hit = hit;
      c.miss = miss;
      c.parts.addAll(parts);
      c.fetch = fetch.clone();
      return c;
    }
  }

  interface Value {
    long at(int slice, int place);
  }

  record Clause(boolean ink, Value value) { }

  /** The BEST ways on from a place: FIT, how many, the least of them, and the radii that any of them has. */
  record Ways(int fit, BigInteger count, List<Integer> least, List<Integer> masks) { }

  static final class Wrong extends Exception {
    private static final long serialVersionUID = 1L;
    final int kind;
    final int place;

    Wrong(int kind, int place) {
      this.kind = kind;
      this.place = place;
    }
  }

  final int a;
  final int r;
  All x = new All();
  All image;
  List<Integer> tape = new ArrayList<>();
  int fault = NONE;
  int faultPlace = NONE;
  final Ways[] known = new Ways[6];
  final boolean[] isKnown = new boolean[6];

  PlainRoll(int angles, int radii) {
    a = angles < 3 ? 3 : angles > 6 ? 6 : angles;
    r = radii < 4 ? 4 : radii > 12 ? 12 : radii;
    x.grey = new int[6][a][r];
    x.crack = new int[6][a][r];
    image = x.copy();
  }

  static int order(List<Integer> p, List<Integer> q) {
    for (int i = 0; i < p.size() && i < q.size(); i++) {
      if (!p.get(i).equals(q.get(i))) {
        return Integer.compare(p.get(i), q.get(i));
      }
    }
    return Integer.compare(p.size(), q.size());
  }

  static int[][][] deep(int[][][] from) {
    int[][][] to = new int[from.length][][];
    for (int i = 0; i < from.length; i++) {
      to[i] = new int[from[i].length][];
      for (int j = 0; j < from[i].length; j++) {
        to[i][j] = from[i][j].clone();
      }
    }
    return to;
  }

  static boolean in(long v, long low, long high) {
    return low <= v && v <= high;
  }

  void stale() {
    Arrays.fill(isKnown, false);
  }

  boolean grey(int slice, int angle, int radius, int grey, int crack) {
    if (!in(slice, 0, 5) || !in(angle, 0, a - 1) || !in(radius, 0, r - 1) || !in(grey, 0, 9) || !in(crack, 0, 9)) {
      return false;
    }
    x.grey[slice][angle][radius] = grey;
    x.crack[slice][angle][radius] = crack;
    isKnown[slice] = false;
    return true;
  }

  boolean column(int slice, int angle, long digits) {
    if (!in(slice, 0, 5) || !in(angle, 0, a - 1) || digits < 0 || Long.toString(digits).length() > r) {
      return false;
    }
    String text = new StringBuilder(Long.toString(digits)).reverse() + "000000000000";
    for (int i = 0; i < r; i++) {
      x.grey[slice][angle][i] = text.charAt(i) - '0';
    }
    isKnown[slice] = false;
    return true;
  }

  boolean wound(int slice, int k) {
    if (!in(slice, 0, 5) || !in(k, 1, 4)) {
      return false;
    }
    x.turns[slice] = k;
    isKnown[slice] = false;
    return true;
  }

  int pin(int slice, int place, int radius) {
    if (!in(slice, 0, 5) || !in(place, 0, 4 * a - 1) || !in(radius, 0, r - 1)) {
      return NONE;
    }
    if (x.pins.containsKey(List.of(slice, place)) || x.pins.size() >= 20) {
      return NONE;
    }
    x.pins.put(List.of(slice, place), radius);
    isKnown[slice] = false;
    return x.pins.size();
  }

  int places(int slice) {
    return in(slice, 0, 5) ? x.turns[slice] * a : 0;
  }

  boolean there(int slice, int place) {
    return in(place, 0, places(slice) - 1);
  }

  Ways bestOf(int slice) {
    if (!isKnown[slice]) {
      known[slice] = onFrom(slice, 0, List.of(), new HashMap<>());
      isKnown[slice] = true;
    }
    return known[slice];
  }

  /** The window is the radii of the latest places, as many as there are angles at most. */
  Ways onFrom(int slice, int place, List<Integer> window, Map<List<Integer>, Ways> memory) {
    if (place == places(slice)) {
      return new Ways(0, BigInteger.ONE, List.of(), List.of());
    }
    List<Integer> key = new ArrayList<>(window);
    key.add(place);
    if (memory.containsKey(key)) {
      return memory.get(key);
    }
    Ways best = null;
    for (int radius = 0; radius < r; radius++) {
      if (!window.isEmpty() && Math.abs(radius - window.get(window.size() - 1)) > 1) {
        continue;
      }
      if (window.size() == a && radius <= window.get(0)) {
        continue;
      }
      Integer pinned = x.pins.get(List.of(slice, place));
      if (pinned != null && pinned != radius) {
        continue;
      }
      List<Integer> next = new ArrayList<>(window);
      next.add(radius);
      if (next.size() > a) {
        next.remove(0);
      }
      Ways rest = onFrom(slice, place + 1, next, memory);
      if (rest != null) {
        best = better(best, ahead(x.grey[slice][place % a][radius], radius, rest));
      }
    }
    memory.put(key, best);
    return best;
  }

  static Ways ahead(int fit, int radius, Ways rest) {
    List<Integer> least = new ArrayList<>(List.of(radius));
    least.addAll(rest.least);
    List<Integer> masks = new ArrayList<>(List.of(1 << radius));
    masks.addAll(rest.masks);
    return new Ways(fit + rest.fit, rest.count, least, masks);
  }

  static Ways better(Ways p, Ways q) {
    if (p == null || q.fit > p.fit) {
      return q;
    }
    if (q.fit < p.fit) {
      return p;
    }
    List<Integer> masks = new ArrayList<>();
    for (int i = 0; i < p.masks.size(); i++) {
      masks.add(p.masks.get(i) | q.masks.get(i));
    }
    return new Ways(p.fit, p.count.add(q.count), order(p.least, q.least) <= 0 ? p.least : q.least, masks);
  }

  int best(int slice, int what) {
    if (!in(slice, 0, 5) || bestOf(slice) == null) {
      return NONE;
    }
    Ways ways = bestOf(slice);
    if (what == 0) {
      return ways.fit;
    }
    if (what == 1) {
      return ways.count.min(BigInteger.valueOf(1000000)).intValue();
    }
    if (what >= 100 && there(slice, what - 100)) {
      return ways.least.get(what - 100);
    }
    if (what >= 200 && there(slice, what - 200)) {
      return Integer.bitCount(ways.masks.get(what - 200)) == 1 ? 1 : 0;
    }
    return NONE;
  }

  int step(int radius) {
    if (!in(radius, 0, r - 1) || x.walk.size() >= 30) {
      return NONE;
    }
    x.walk.add(radius);
    return x.walk.size();
  }

  int unwalk() {
    int n = x.walk.size();
    x.walk.clear();
    return n;
  }

  boolean jump(int cost) {
    if (!in(cost, 0, 99)) {
      return false;
    }
    x.jump = cost;
    return true;
  }

  record Told(int cost, List<Integer> turns) { }

  Told tell(int slice, int place, int step, int s, Map<Integer, Told> memory) {
    if (step == x.walk.size()) {
      return new Told(0, List.of());
    }
    int key = step * 1000 + s + 500;
    if (memory.containsKey(key)) {
      return memory.get(key);
    }
    int at = place + step + a * s;
    int own = there(slice, at) ? Math.abs(x.walk.get(step) - bestOf(slice).least.get(at)) : 9;
    Told best = null;
    for (int change = 1; change >= -1; change--) {
      if (step == x.walk.size() - 1 && change != 0) {
        continue;
      }
      Told rest = tell(slice, place, step + 1, s + change, memory);
      int cost = own + rest.cost + (change == 0 ? 0 : x.jump);
      List<Integer> turns = new ArrayList<>(List.of(s));
      turns.addAll(rest.turns);
      if (best == null || cost < best.cost || (cost == best.cost && order(turns, best.turns) < 0)) {
        best = new Told(cost, turns);
      }
    }
    memory.put(key, best);
    return best;
  }

  int walked(int slice, int place, int what) {
    if (!there(slice, place) || x.walk.isEmpty() || bestOf(slice) == null) {
      return -1000;
    }
    Told told = tell(slice, place, 0, 0, new HashMap<>());
    if (what == 0) {
      return told.cost;
    }
    if (what == 1) {
      int n = 0;
      for (int i = 1; i < told.turns.size(); i++) {
        n += told.turns.get(i).equals(told.turns.get(i - 1)) ? 0 : 1;
      }
      return n;
    }
    if (in(what, 100, 99 + x.walk.size())) {
      int at = place + what - 100 + a * told.turns.get(what - 100);
      return there(slice, at) ? at : -1000;
    }
    return -1000;
  }

  int flat(int k, int i, int what) {
    if (!in(k, 1, 4) || !in(i, 0, k * a - 2) || !in(what, 0, 2)) {
      return NONE;
    }
    List<Integer> slices = new ArrayList<>();
    for (int slice = 0; slice < 6; slice++) {
      if (x.turns[slice] >= k) {
        if (bestOf(slice) == null) {
          return NONE;
        }
        slices.add(slice);
      }
    }
    if (slices.isEmpty()) {
      return NONE;
    }
    int all = 0;
    for (int place = 0; place <= i; place++) {
      List<Integer> lengths = new ArrayList<>();
      for (int slice : slices) {
        lengths.add(bestOf(slice).least.get(place) + 1);
      }
      lengths.sort(null);
      int width = 0;
      int stretch = Integer.MAX_VALUE;
      for (int w : lengths) {
        int sum = lengths.stream().mapToInt(l -> Math.abs(l - w)).sum();
        if (sum < stretch) {
          stretch = sum;
          width = w;
        }
      }
      all += stretch;
      if (place == i) {
        return what == 0 ? width : what == 1 ? stretch : all;
      }
    }
    return NONE;
  }

  int feed(int b0, int b1, int b2, int b3, int b4) {
    if (tape.size() + 20 > 300) {
      return NONE;
    }
    for (int four : new int[] {b0, b1, b2, b3, b4}) {
      for (int i = 0; i < 4; i++) {
        tape.add(four >>> (24 - 8 * i) & 255);
      }
    }
    return tape.size();
  }

  int end(int n) {
    if (!in(n, 0, tape.size())) {
      return NONE;
    }
    tape = new ArrayList<>(tape.subList(0, n));
    return n;
  }

  int reader() {
    if (x.readers.size() == 4) {
      return NONE;
    }
    List<Integer> text = tape;
    tape = new ArrayList<>();
    try {
      x.readers.add(new Down(text).text());
      x.learnt.add(0);
      fault = 0;
      faultPlace = NONE;
      return x.readers.size() - 1;
    } catch (Wrong wrong) {
      fault = wrong.kind;
      faultPlace = wrong.place;
      return NONE;
    }
  }

  /** Down the grammar, a method a rule. */
  final class Down {
    final List<String> tokens = new ArrayList<>();
    final List<Integer> starts = new ArrayList<>();
    int next = 0;

    Down(List<Integer> text) {
      int i = 0;
      while (i < text.size()) {
        int c = text.get(i);
        if (c == 32 || c == 10) {
          i++;
          continue;
        }
        int j = i + 1;
        String kind = kind(c);
        if (!kind.equals("sign")) {
          while (j < text.size() && kind(text.get(j)).equals(kind)) {
            j++;
          }
        } else if ((c == '<' || c == '>') && j < text.size() && text.get(j) == '=') {
          j++;
        }
        StringBuilder token = new StringBuilder();
        for (int t = i; t < j; t++) {
          token.append((char) (int) text.get(t));
        }
        tokens.add(token.toString());
        starts.add(i);
        i = j;
      }
      tokens.add("");
      starts.add(text.size());
    }

    String kind(int c) {
      boolean letter = (c >= 'a' && c <= 'z') || (c >= 'A' && c <= 'Z');
      return letter ? "letters" : c >= '0' && c <= '9' ? "digits" : "sign";
    }

    boolean is(String... some) {
      return Arrays.asList(some).contains(tokens.get(next));
    }

    Wrong wrong(int kind) {
      return new Wrong(kind, starts.get(next));
    }

    List<Clause> text() throws Wrong {
      List<Clause> clauses = new ArrayList<>();
      while (!is("")) {
        if (!is("ink", "bare")) {
          throw wrong(1);
        }
        if (clauses.size() == 10) {
          throw wrong(4);
        }
        boolean ink = is("ink");
        next++;
        Value value = either();
        if (!is(";")) {
          throw wrong(1);
        }
        next++;
        clauses.add(new Clause(ink, value));
      }
      return clauses;
    }

    Value either() throws Wrong {
      Value v = both();
      while (is("or")) {
        next++;
        Value p = v;
        Value q = both();
        v = (z, i) -> p.at(z, i) | q.at(z, i);
      }
      return v;
    }

    Value both() throws Wrong {
      Value v = ask(0);
      while (is("and")) {
        next++;
        Value p = v;
        Value q = ask(0);
        v = (z, i) -> p.at(z, i) & q.at(z, i);
      }
      return v;
    }

    Value ask(int open) throws Wrong {
      if (is("not")) {
        if (open == 8) {
          throw wrong(3);
        }
        next++;
        Value p = ask(open + 1);
        return (z, i) -> 1 - p.at(z, i);
      }
      Value p = sum(open);
      if (!is("<", "<=", ">", ">=", "=", "#")) {
        throw wrong(1);
      }
      String sign = tokens.get(next);
      next++;
      Value q = sum(open);
      return (z, i) -> {
        int c = Long.compare(p.at(z, i), q.at(z, i));
        boolean so = switch (sign) {
          case "<" -> c < 0;
          case "<=" -> c <= 0;
          case ">" -> c > 0;
          case ">=" -> c >= 0;
          case "=" -> c == 0;
          default -> c != 0;
        };
        return so ? 1 : 0;
      };
    }

    Value sum(int open) throws Wrong {
      Value v = product(open);
      while (is("+", "-")) {
        int sign = is("+") ? 1 : -1;
        next++;
        Value p = v;
        Value q = product(open);
        v = (z, i) -> cut(p.at(z, i) + sign * q.at(z, i));
      }
      return v;
    }

    Value product(int open) throws Wrong {
      Value v = one(open);
      while (is("*", "/")) {
        boolean times = is("*");
        next++;
        Value p = v;
        Value q = one(open);
        v = (z, i) -> times ? cut(p.at(z, i) * q.at(z, i)) : q.at(z, i) == 0 ? 0 : p.at(z, i) / q.at(z, i);
      }
      return v;
    }

    Value one(int open) throws Wrong {
      String token = tokens.get(next);
      if (is("(", "-")) {
        if (open == 8) {
          throw wrong(3);
        }
        next++;
        Value p = token.equals("-") ? one(open + 1) : sum(open + 1);
        if (token.equals("-")) {
          return (z, i) -> -p.at(z, i);
        }
        if (!is(")")) {
          throw wrong(1);
        }
        next++;
        return p;
      }
      if (!token.isEmpty() && kind(token.charAt(0)).equals("digits")) {
        BigInteger n = new BigInteger(token);
        if (n.compareTo(BigInteger.valueOf(9999)) > 0) {
          throw wrong(2);
        }
        next++;
        long value = n.longValue();
        return (z, i) -> value;
      }
      if (!is("grey", "crack", "radius", "turn", "angle", "slice", "in", "out", "sharp")) {
        throw wrong(1);
      }
      next++;
      return (z, i) -> PlainRoll.this.named(token, z, i);
    }
  }

  static long cut(long v) {
    return v > 1000000 ? 1000000 : v < -1000000 ? -1000000 : v;
  }

  long named(String name, int slice, int place) {
    int angle = place % a;
    int radius = bestOf(slice).least.get(place);
    switch (name) {
      case "grey":
        return x.grey[slice][angle][radius];
      case "crack":
        return x.crack[slice][angle][radius];
      case "radius":
        return radius;
      case "turn":
        return place / a;
      case "angle":
        return angle;
      case "slice":
        return slice;
      case "in":
        return radius == 0 ? 0 : x.grey[slice][angle][radius - 1];
      case "out":
        return radius == r - 1 ? 0 : x.grey[slice][angle][radius + 1];
      default:
        int own = x.crack[slice][angle][radius];
        return place == 0 ? own : own - x.crack[slice][(place - 1) % a][bestOf(slice).least.get(place - 1)];
    }
  }

  int fault(int what) {
    return what == 0 ? fault : what == 1 ? faultPlace : NONE;
  }

  /** INK may be asked of the READER that is now there. */
  int ink(int reader, int slice, int place) {
    if (!in(reader, 0, x.readers.size() - 1) || !there(slice, place) || bestOf(slice) == null) {
      return NONE;
    }
    boolean ink = false;
    for (Clause clause : x.readers.get(reader)) {
      if (clause.value.at(slice, place) == 1) {
        if (!clause.ink) {
          return 0;
        }
        ink = true;
      }
    }
    return ink ? 1 : 0;
  }

  int bit(int slice, int place, boolean ink, int group) {
    if (!in(slice, 0, 5) || !in(place, 0, 4 * a - 1) || !in(group, 0, 3)) {
      return NONE;
    }
    List<Integer> key = List.of(slice, place);
    if (!x.bits.containsKey(key) && x.bits.size() == 60) {
      return NONE;
    }
    x.bits.put(key, new int[] {ink ? 1 : 0, group});
    return x.bits.size();
  }

  boolean learnt(int reader, int groups) {
    if (!in(reader, 0, x.readers.size() - 1) || !in(groups, 0, 15)) {
      return false;
    }
    x.learnt.set(reader, groups);
    return true;
  }

  boolean learntFrom(int reader, int group) {
    return (x.learnt.get(reader) & 1 << group) != 0;
  }

  int right(int reader, boolean own, int what) {
    if (!in(reader, 0, x.readers.size() - 1) || !in(what, 0, 1)) {
      return NONE;
    }
    int right = 0;
    int all = 0;
    for (Map.Entry<List<Integer>, int[]> e : x.bits.entrySet()) {
      int slice = e.getKey().get(0);
      int place = e.getKey().get(1);
      if (there(slice, place) && learntFrom(reader, e.getValue()[1]) == own) {
        all++;
        right += ink(reader, slice, place) == e.getValue()[0] ? 1 : 0;
      }
    }
    return what == 0 ? right : all;
  }

  int letter(int bits, int weight) {
    if (!in(bits, 0, 511) || !in(weight, 1, 99) || x.letters.size() == 12) {
      return NONE;
    }
    x.letters.add(new int[] {bits, weight});
    return x.letters.size() - 1;
  }

  int word(int one, int two, int three, int weight) {
    int n = x.letters.size();
    boolean spelt = in(one, 0, n - 1)
        && (in(two, 0, n - 1) && in(three, NONE, n - 1) || two == NONE && three == NONE);
    if (!spelt || !in(weight, 1, 99) || x.words.size() == 12) {
      return NONE;
    }
    for (int[] w : x.words) {
      if (w[0] == one && w[1] == two && w[2] == three) {
        return NONE;
      }
    }
    x.words.add(new int[] {one, two, three, weight});
    return x.words.size() - 1;
  }

  boolean chances(int hit, int miss) {
    if (!in(hit, 1, 3) || !in(miss, 1, 3)) {
      return false;
    }
    x.hit = hit;
    x.miss = miss;
    return true;
  }

  /** INK of a BOX, row by row; null where there is none. */
  int[] inkOf(int reader, int slice, int place) {
    if (!in(slice, 0, 3)) {
      return null;
    }
    int[] ink = new int[9];
    for (int i = 0; i < 9; i++) {
      ink[i] = ink(reader, slice + i / 3, place + i % 3);
      if (ink[i] == NONE) {
        return null;
      }
    }
    return ink;
  }

  int like(int letter, int[] ink) {
    int n = 0;
    for (int i = 0; i < 9; i++) {
      n += (x.letters.get(letter)[0] >> i & 1) == ink[i] ? 1 : 0;
    }
    return n;
  }

  BigInteger chance(int letter, int[] ink) {
    int like = like(letter, ink);
    return BigInteger.valueOf(x.hit).pow(like).multiply(BigInteger.valueOf(x.miss).pow(9 - like));
  }

  BigInteger[] letterChances(int[] ink) {
    BigInteger[] all = new BigInteger[x.letters.size()];
    for (int l = 0; l < all.length; l++) {
      all[l] = chance(l, ink).multiply(BigInteger.valueOf(x.letters.get(l)[1]));
    }
    return all;
  }

  static int greatest(BigInteger[] all) {
    int best = NONE;
    for (int i = 0; i < all.length; i++) {
      if (all[i] != null && (best == NONE || all[i].compareTo(all[best]) > 0)) {
        best = i;
      }
    }
    return best;
  }

  static int odds(BigInteger[] all, int i) {
    BigInteger sum = BigInteger.ZERO;
    for (BigInteger c : all) {
      sum = c == null ? sum : sum.add(c);
    }
    return all[i].multiply(BigInteger.valueOf(1000)).divide(sum).intValue();
  }

  int box(int reader, int slice, int place, int what) {
    int[] ink = inkOf(reader, slice, place);
    if (ink == null || x.letters.isEmpty()) {
      return NONE;
    }
    BigInteger[] all = letterChances(ink);
    if (what == 0) {
      return greatest(all);
    }
    if (what == 1) {
      return odds(all, greatest(all));
    }
    return in(what, 100, 99 + x.letters.size()) ? like(what - 100, ink) : NONE;
  }

  BigInteger[] wordChances(int reader, int slice, int place) {
    BigInteger[] all = new BigInteger[x.words.size()];
    for (int w = 0; w < all.length; w++) {
      int[] word = x.words.get(w);
      BigInteger product = BigInteger.valueOf(word[3]);
      for (int i = 0; i < 3 && product != null; i++) {
        if (word[i] == NONE) {
          product = product.multiply(BigInteger.valueOf(Math.max(x.hit, x.miss)).pow(9));
        } else {
          int[] ink = place > 100 ? null : inkOf(reader, slice, place + 3 * i);
          product = ink == null ? null : product.multiply(chance(word[i], ink));
        }
      }
      all[w] = product;
    }
    return all;
  }

  int joined(int reader, int slice, int place, int what) {
    BigInteger[] all = wordChances(reader, slice, place);
    int best = greatest(all);
    if (best == NONE) {
      return NONE;
    }
    if (what == 0) {
      return best;
    }
    if (what == 1) {
      return odds(all, best);
    }
    return in(what, 100, 99 + all.length) && all[what - 100] != null ? odds(all, what - 100) : NONE;
  }

  int seen(int q, int m) {
    if (!in(q, 0, 10) || !in(m, 0, 9)) {
      return NONE;
    }
    int sum = 0;
    for (int bits = 0; bits < 512; bits++) {
      int[] ink = new int[9];
      int often = 1;
      for (int i = 0; i < 9; i++) {
        ink[i] = bits >> i & 1;
        often *= ink[i] == 1 ? q : 10 - q;
      }
      for (int l = 0; l < x.letters.size(); l++) {
        if (like(l, ink) >= m) {
          sum += often;
          break;
        }
      }
    }
    return sum;
  }

  int printed(int readers, int slice, int place, int p, int m) {
    if (readers < 0 || readers >> x.readers.size() != 0 || !in(p, 0, 1000) || !in(m, 1, 4)) {
      return NONE;
    }
    int[] count = new int[x.words.size()];
    for (int reader = 0; reader < x.readers.size(); reader++) {
      if ((readers >> reader & 1) == 1) {
        int w = joined(reader, slice, place, 0);
        if (w != NONE && counts(reader, slice, place, p, w)) {
          count[w]++;
        }
      }
    }
    int best = NONE;
    for (int w = count.length - 1; w >= 0; w--) {
      if (count[w] >= m && (best == NONE || count[w] >= count[best])) {
        best = w;
      }
    }
    return best;
  }

  boolean counts(int reader, int slice, int place, int p, int w) {
    if (joined(reader, slice, place, 1) < p) {
      return false;
    }
    for (int i = 0; i < 3 && x.words.get(w)[i] != NONE; i++) {
      if (box(reader, slice, place + 3 * i, 0) != x.words.get(w)[i]) {
        return false;
      }
      for (int j = 0; j < 9; j++) {
        int[] bit = x.bits.get(List.of(slice + j / 3, place + 3 * i + j % 3));
        if (bit != null && learntFrom(reader, bit[1])) {
          return false;
        }
      }
    }
    return true;
  }

  int length(int outer, int low, int high, int least, boolean greatest) {
    if (!in(outer, 1, 9999) || !in(low, 1, 999) || !in(high, 1, 999) || !in(least, 1, 9999)) {
      return NONE;
    }
    if (low > high || least > outer) {
      return NONE;
    }
    int sum = 0;
    int turn = outer;
    while (turn >= least) {
      sum += turn;
      turn -= greatest ? low : high;
    }
    return sum;
  }

  int part(int hours, int worth, int roll) {
    if (!in(hours, 1, 50) || !in(worth, 1, 999) || !in(roll, 0, 3) || x.parts.size() == 16) {
      return NONE;
    }
    x.parts.add(new int[] {hours, worth, roll});
    return x.parts.size();
  }

  boolean fetch(int roll, int hours) {
    if (!in(roll, 0, 3) || !in(hours, 0, 50)) {
      return false;
    }
    x.fetch[roll] = hours;
    return true;
  }

  int plan(int hours, int what) {
    if (!in(hours, 0, 400) || !in(what, 0, 2)) {
      return NONE;
    }
    int bestSet = 0;
    int bestWorth = 0;
    int bestHours = 0;
    for (int set = 1; set < 1 << x.parts.size(); set++) {
      int worth = 0;
      int took = 0;
      int rolls = 0;
      for (int i = 0; i < x.parts.size(); i++) {
        if ((set >> i & 1) == 1) {
          took += x.parts.get(i)[0];
          worth += x.parts.get(i)[1];
          rolls |= 1 << x.parts.get(i)[2];
        }
      }
      for (int roll = 0; roll < 4; roll++) {
        took += (rolls >> roll & 1) * x.fetch[roll];
      }
      if (took <= hours && (worth > bestWorth || (worth == bestWorth && took < bestHours))) {
        bestSet = set;
        bestWorth = worth;
        bestHours = took;
      }
    }
    return what == 0 ? bestSet : what == 1 ? bestWorth : bestHours;
  }

  int image() {
    image = x.copy();
    return x.bits.size();
  }

  int back() {
    x = image.copy();
    stale();
    return x.bits.size();
  }

  int about(int what) {
    int[] low = {a, r, x.readers.size(), x.pins.size(), x.walk.size(), x.bits.size(), x.letters.size(),
        x.words.size(), x.parts.size(), tape.size()};
    if (in(what, 0, 9)) {
      return low[what];
    }
    if (in(what, 10, 15)) {
      return x.turns[what - 10];
    }
    return in(what, 20, 19 + x.readers.size()) ? x.learnt.get(what - 20) : NONE;
  }
}
