import java.util.Arrays;

/** Rolls that tests begin with, how a text comes onto the tape, and all that can be asked of a roll in one row. */
final class Rolls {
  private Rolls() {
  }

  /** The text alone on the tape. */
  static void tape(CharredRoll x, String text) {
    x.end(0);
    for (int i = 0; i < text.length(); i += 20) {
      int[] f = new int[5];
      for (int j = 0; j < 20; j++) {
        f[j / 4] = f[j / 4] << 8 | (i + j < text.length() ? text.charAt(i + j) : 0);
      }
      x.feed(f[0], f[1], f[2], f[3], f[4]);
    }
    x.end(text.length());
  }

  static int read(CharredRoll x, String text) {
    tape(x, text);
    return x.reader();
  }

  /** Slices of three angles and four radii, three turns each; THE BEST goes 0 0 0 1 1 1 2 2 2. */
  static CharredRoll threeTurns() {
    CharredRoll x = new CharredRoll(3, 4);
    for (int slice = 0; slice < 6; slice++) {
      x.wound(slice, 3);
    }
    return x;
  }

  /** CRACK of 9 where THE BEST of threeTurns goes by, so that "ink crack>4;" sees a box of nine bits there. */
  static void draw(CharredRoll x, int slice, int place, int bits) {
    for (int i = 0; i < 9; i++) {
      int at = place + i % 3;
      x.grey(slice + i / 3, at % 3, at / 3, 0, (bits >> i & 1) * 9);
    }
  }

  /** A slice whose first two places are pinned too far from one another, so that it has no spiral. */
  static void tear(CharredRoll x, int slice) {
    x.pin(slice, 0, 0);
    x.pin(slice, 1, 3);
  }

  /** A roll of which everything has been told, with an image that is another, a tape and a latest FAULT. */
  static CharredRoll some() {
    CharredRoll x = new CharredRoll(3, 4);
    int[] turns = {3, 3, 3, 2, 1, 4};
    for (int slice = 0; slice < 6; slice++) {
      x.wound(slice, turns[slice]);
      x.column(slice, slice % 3, slice < 3 ? 110 : 1001);
      x.grey(slice, (slice + 1) % 3, slice % 3, 1, 9 - slice);
    }
    x.pin(0, 5, 2);
    x.step(0);
    x.step(1);
    x.jump(3);
    read(x, "ink crack>4;");
    x.learnt(0, 5);
    x.bit(0, 0, true, 1);
    x.bit(1, 1, false, 2);
    x.letter(0b010000101, 10);
    x.letter(0b000000111, 20);
    x.word(0, -1, -1, 5);
    x.word(0, 1, -1, 6);
    x.chances(3, 2);
    x.part(5, 10, 0);
    x.part(4, 9, 1);
    x.fetch(0, 2);
    x.image();
    x.pin(3, 4, 2);
    x.step(2);
    x.step(2);
    x.jump(2);
    read(x, "ink grey=1 or sharp>0;bare angle=2 and turn=1;");
    x.learnt(1, 8);
    x.bit(2, 2, true, 3);
    x.bit(3, 3, true, 0);
    x.letter(0b111000000, 30);
    x.word(1, 2, 0, 7);
    x.chances(2, 1);
    x.part(3, 9, 3);
    x.fetch(1, 1);
    read(x, "ink 10000=1;");
    tape(x, "ink radius=1;");
    return x;
  }

  /** All that an image holds, as answers, by so many calls that a full roll still has enough left for them. */
  static long[] held(CharredRoll x) {
    long[] row = new long[400];
    int n = 0;
    for (int what = 0; what < 25; what++) {
      row[n++] = what == 9 ? 0 : x.about(what);
    }
    for (int slice = 0; slice < 6; slice++) {
      row[n++] = x.best(slice, 0);
      row[n++] = x.best(slice, 1);
      int places = x.about(0) * x.about(10 + slice);
      for (int place = 0; place < places; place += slice < 3 ? 1 : 2) {
        row[n++] = x.best(slice, 100 + place);
      }
      for (int reader = 0; reader < x.about(2); reader++) {
        for (int place = 0; place < Math.min(reader < 2 ? 5 : 1, places); place++) {
          row[n++] = x.ink(reader, slice, place);
        }
      }
    }
    for (int what : new int[] {0, 1, 100, 101, 102, 103}) {
      row[n++] = x.walked(0, 1, what);
    }
    for (int k = 1; k <= 4; k++) {
      row[n++] = x.flat(k, 1, 2);
    }
    for (int reader = 0; reader < x.about(2); reader++) {
      for (int what = 0; what < 4; what++) {
        row[n++] = x.right(reader, what < 2, what % 2);
      }
      row[n++] = x.box(reader, 0, 1, 0);
      row[n++] = x.box(reader, 0, 1, 1);
      row[n++] = x.joined(reader, 0, 0, 0);
      row[n++] = x.joined(reader, 0, 0, 1);
      row[n++] = x.joined(reader, 0, 0, 101);
    }
    for (int m = 4; m < 10; m++) {
      row[n++] = x.seen(3, m);
    }
    row[n++] = x.printed(3, 0, 0, 0, 1);
    for (int hours = 4; hours < 20; hours += 3) {
      row[n++] = x.plan(hours, 0);
    }
    return Arrays.copyOf(row, n);
  }

  /** All that can be asked, the tape, the latest FAULT and the image too. The roll is of no use afterwards. */
  static long[] all(CharredRoll x) {
    long[] now = held(x);
    long[] behind = {x.about(9), x.fault(0), x.fault(1), x.reader(), x.fault(0), x.fault(1), x.ink(2, 0, 3), x.back(),
        x.about(2)};
    long[] image = new long[60];
    int n = 0;
    for (int what = 3; what < 22; what++) {
      image[n++] = x.about(what);
    }
    for (int slice = 0; slice < 6; slice++) {
      image[n++] = x.best(slice, 0);
      image[n++] = x.best(slice, 1);
      image[n++] = x.ink(0, slice, 1);
    }
    image[n++] = x.walked(0, 1, 0);
    image[n++] = x.right(0, true, 0);
    image[n++] = x.box(0, 0, 1, 1);
    image[n++] = x.joined(0, 0, 0, 1);
    image[n++] = x.seen(3, 7);
    image[n++] = x.plan(10, 0);
    long[] row = Arrays.copyOf(now, now.length + behind.length + image.length);
    System.arraycopy(behind, 0, row, now.length, behind.length);
    System.arraycopy(image, 0, row, now.length + behind.length, image.length);
    return row;
  }
}
