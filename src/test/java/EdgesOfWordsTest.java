/** The boundary cases that the document names in part III of its terms and in promises 20 to 26, a sentence at a time. */
public final class EdgesOfWordsTest {
  private static final int MIN = Edges.MIN;
  private static final int MAX = Edges.MAX;
  private static final Edges DOC = new Edges();

  public static void main(String[] args) {
    lettersOneByOne();
    nineBits();
    weightOfLetters();
    wordsOneByOne();
    weightOfWords();
    hitAndMissAtFirst();
    boxes();
    like();
    byInk();
    oddsOfLetters();
    wordsThatAreAsked();
    shorterWords();
    theWord();
    oddsOfWords();
    tenths();
    likeAtManyBits();
    learntFromNoGroup();
    oddsOfP();
    eachLetterByInk();
    manyCount();
    letter();
    word();
    chances();
    box();
    joined();
    seen();
    printed();
    DOC.close();
  }

  /** Three turns of three places in every slice, with a reader that sees ink where something was drawn. */
  private static CharredRoll sheet() {
    CharredRoll x = Rolls.threeTurns();
    Rolls.read(x, "ink crack>4;");
    return x;
  }

  private static CharredRoll twelveLetters() {
    CharredRoll x = Rolls.some();
    for (int i = 3; i < 12; i++) {
      x.letter(i * 40, i);
    }
    return x;
  }

  private static CharredRoll twelveWords() {
    CharredRoll x = Rolls.some();
    for (int i = 3; i < 12; i++) {
      x.word(i % 3, i / 3 % 3, 2 - i / 6, i);
    }
    return x;
  }

  private static void lettersOneByOne() {
    DOC.says("Terms III", "LETTERS 0 .. 11 (told one by one)");
    CharredRoll x = sheet();
    for (int i = 0; i < 12; i++) {
      DOC.is("like one that isn't there yet", x.box(0, 0, 0, 100 + i), -1);
      DOC.is("a letter", x.letter((1 << i % 9) - 1, 1), i);
      DOC.is("like it", x.box(0, 0, 0, 100 + i), 9 - i % 9);
    }
    DOC.is("a thirteenth", x.letter(0, 1), -1);
    DOC.is("like it", x.box(0, 0, 0, 112), -1);
    DOC.is("twelve", x.about(6), 12);
  }

  private static void nineBits() {
    DOC.says("Terms III", "nine bits (bit 3 r + c: row r, column c)");
    for (int bit = 0; bit < 9; bit++) {
      CharredRoll x = sheet();
      for (int i = 0; i < 9; i++) {
        x.letter(1 << i, 1);
      }
      x.letter(511, 1);
      x.letter(0, 1);
      // From the last place of a turn on, so that the box goes round.
      Rolls.draw(x, 1, 2, 1 << bit);
      for (int i = 0; i < 9; i++) {
        DOC.is("bit " + bit + " like " + i, x.box(0, 1, 2, 100 + i), i == bit ? 9 : 7);
      }
      DOC.is("like all", x.box(0, 1, 2, 109), 1);
      DOC.is("like nothing", x.box(0, 1, 2, 110), 8);
      DOC.is("by ink", x.box(0, 1, 2, 0), bit);
    }
    CharredRoll x = new CharredRoll(3, 4);
    DOC.is("ten bits", x.letter(512, 1), -1);
    DOC.is("all nine", x.letter(511, 1), 0);
  }

  private static void weightOfLetters() {
    DOC.says("Terms III", "(bit 3 r + c: row r, column c) and a WEIGHT (1 .. 99)");
    CharredRoll x = sheet();
    x.chances(1, 1);
    DOC.is("the least", x.letter(0, 1), 0);
    DOC.is("the greatest", x.letter(511, 99), 1);
    DOC.is("the greatest is the likelier", x.box(0, 0, 0, 0), 1);
    DOC.is("99 of 100", x.box(0, 0, 0, 1), 990);
    DOC.is("none", x.letter(0, 0), -1);
    DOC.is("too great", x.letter(0, 100), -1);
    DOC.is("99 of 100", x.box(0, 0, 0, 1), 990);
  }

  private static void wordsOneByOne() {
    DOC.says("Terms III", "WORDS 0 .. 11: one to three LETTERS");
    CharredRoll x = sheet();
    x.letter(0, 1);
    x.letter(511, 1);
    int[][] words = {{0, -1, -1}, {1, -1, -1}, {0, 0, -1}, {0, 1, -1}, {1, 0, -1}, {1, 1, -1}, {0, 0, 0}, {0, 0, 1},
        {0, 1, 0}, {1, 0, 0}, {1, 1, 0}, {1, 1, 1}};
    for (int i = 0; i < 12; i++) {
      DOC.is("odds of one that isn't there yet", x.joined(0, 0, 0, 100 + i), -1);
      DOC.is("a word", x.word(words[i][0], words[i][1], words[i][2], 1), i);
      DOC.taken("its odds", x.joined(0, 0, 0, 100 + i), -1);
    }
    DOC.is("a thirteenth", x.word(0, 1, 1, 1), -1);
    DOC.is("its odds", x.joined(0, 0, 0, 112), -1);
    DOC.is("twelve", x.about(7), 12);
    CharredRoll y = sheet();
    y.letter(0, 1);
    DOC.is("no letter", y.word(-1, -1, -1, 1), -1);
    DOC.is("one letter", y.word(0, -1, -1, 1), 0);
    DOC.is("three letters", y.word(0, 0, 0, 1), 1);
  }

  private static void weightOfWords() {
    DOC.says("Terms III", "one to three LETTERS and a WEIGHT (1 .. 99)");
    CharredRoll x = sheet();
    x.chances(1, 1);
    x.letter(0, 1);
    DOC.is("the least", x.word(0, -1, -1, 1), 0);
    DOC.is("the greatest", x.word(0, 0, -1, 99), 1);
    DOC.is("the greatest is the likelier", x.joined(0, 0, 0, 0), 1);
    DOC.is("99 of 100", x.joined(0, 0, 0, 101), 990);
    DOC.is("1 of 100", x.joined(0, 0, 0, 100), 10);
    DOC.is("none", x.word(0, 0, 0, 0), -1);
    DOC.is("too great", x.word(0, 0, 0, 100), -1);
    DOC.is("99 of 100", x.joined(0, 0, 0, 1), 990);
  }

  private static void hitAndMissAtFirst() {
    DOC.says("Terms III", "HIT, MISS (1 .. 3 each; at first 3, 1)");
    CharredRoll x = sheet();
    x.letter(0, 1);
    x.letter(1, 1);
    // One bit is missed: HIT of HIT and MISS.
    DOC.is("3 and 1 at first", x.box(0, 0, 0, 1), 750);
    int[][] odds = {{500, 666, 750}, {666, 500, 600}, {750, 600, 500}};
    for (int hit = 1; hit <= 3; hit++) {
      for (int miss = 1; miss <= 3; miss++) {
        DOC.yes("chances", x.chances(hit, miss));
        DOC.is("odds by " + hit + " and " + miss, x.box(0, 0, 0, 1), odds[hit - 1][miss - 1]);
        DOC.is("by ink by " + hit + " and " + miss, x.box(0, 0, 0, 0), hit < miss ? 1 : 0);
        DOC.no("no hit", x.chances(0, miss));
        DOC.no("no miss", x.chances(hit, 0));
        DOC.no("four", x.chances(4, miss));
        DOC.no("four", x.chances(hit, 4));
        DOC.is("as it was", x.box(0, 0, 0, 1), odds[hit - 1][miss - 1]);
      }
    }
  }

  private static void boxes() {
    DOC.says("Terms III", "A BOX at SLICE z (0 .. 3) and PLACE i");
    CharredRoll x = sheet();
    x.letter(0, 1);
    for (int slice : new int[] {0, 3}) {
      DOC.is("at slice " + slice, x.box(0, slice, 0, 0), 0);
      DOC.is("at the last place", x.box(0, slice, 6, 0), 0);
      DOC.is("one behind", x.box(0, slice, 7, 0), -1);
      DOC.is("one ahead", x.box(0, slice, -1, 0), -1);
    }
    for (int slice : new int[] {-1, -2, -3, 4, 5, 6, MIN, MAX}) {
      DOC.is("at slice " + slice, x.box(0, slice, 0, 0), -1);
    }
    DOC.says("Terms III", "it is one if all three SLICES have them");
    for (int a = 3; a <= 6; a++) {
      for (int fewer = 2; fewer <= 4; fewer++) {
        CharredRoll y = new CharredRoll(a, 6);
        y.reader();
        y.letter(0, 1);
        for (int slice = 2; slice <= 4; slice++) {
          y.wound(slice, slice == fewer ? 1 : 4);
        }
        DOC.is("the last of the one", y.box(0, 2, a - 3, 100), 9);
        DOC.is("one behind", y.box(0, 2, a - 2, 100), -1);
        y.wound(fewer, 4);
        DOC.is("the last of all", y.box(0, 2, 4 * a - 3, 100), 9);
        DOC.is("one behind", y.box(0, 2, 4 * a - 2, 100), -1);
        Rolls.tear(y, fewer);
        DOC.is("without a spiral there is no ink to see", y.box(0, 2, 0, 100), -1);
        DOC.is("beside it there is", y.box(0, fewer == 2 ? 3 : fewer - 3, 0, 100), 9);
      }
    }
  }

  private static void like() {
    DOC.says("Terms III", "LIKE a LETTER: how many of nine bits INK has alike");
    CharredRoll x = sheet();
    for (int n = 0; n <= 9; n++) {
      x.letter((1 << n) - 1, 1);
    }
    for (int n = 0; n <= 9; n++) {
      DOC.is("no ink", x.box(0, 0, 0, 100 + n), 9 - n);
    }
    Rolls.draw(x, 0, 0, 511);
    for (int n = 0; n <= 9; n++) {
      DOC.is("all ink", x.box(0, 0, 0, 100 + n), n);
    }
    Rolls.draw(x, 0, 0, 0b000010000);
    int[] due = {8, 7, 6, 5, 4, 5, 4, 3, 2, 1};
    for (int n = 0; n <= 9; n++) {
      DOC.is("one bit in the middle", x.box(0, 0, 0, 100 + n), due[n]);
    }
  }

  private static void byInk() {
    DOC.says("Terms III", "BY INK: the LETTER of the greatest CHANCE, of like ones the lowest");
    CharredRoll x = sheet();
    x.letter(0b000000011, 9);
    // One more bit alike is three times as likely: 27 * 3^7, 9 * 3^8, 3 * 3^9.
    DOC.is("one alone", x.box(0, 0, 0, 0), 0);
    x.letter(0b000000001, 9);
    DOC.is("likelier", x.box(0, 0, 0, 0), 1);
    x.letter(0b000000100, 9);
    DOC.is("of like ones the lowest", x.box(0, 0, 0, 0), 1);
    x.letter(0, 3);
    DOC.is("of like ones the lowest", x.box(0, 0, 0, 0), 1);
    x.letter(0b000000011, 27);
    DOC.is("of like ones the lowest", x.box(0, 0, 0, 0), 1);
    x.letter(0b000000011, 28);
    DOC.is("a little more", x.box(0, 0, 0, 0), 5);
    x.letter(0, 10);
    DOC.is("more again", x.box(0, 0, 0, 0), 6);
  }

  private static void oddsOfLetters() {
    DOC.says("Terms III", "ODDS: thousandths of CHANCES of all LETTERS, cut");
    CharredRoll x = sheet();
    for (int i = 1; i <= 12; i++) {
      x.letter(0, 7);
      DOC.is(i + " alike", x.box(0, 0, 0, 1), 1000 / i);
    }
    CharredRoll y = sheet();
    y.letter(0, 1);
    y.letter(511, 1);
    // 19683 of 19684.
    DOC.is("nearly all", y.box(0, 0, 0, 1), 999);
    CharredRoll z = sheet();
    z.chances(3, 3);
    z.letter(5, 99);
    for (int i = 1; i < 12; i++) {
      z.letter(i, 99);
    }
    DOC.is("the greatest chances", z.box(0, 0, 0, 1), 83);
    CharredRoll least = sheet();
    least.chances(1, 1);
    least.letter(511, 1);
    DOC.is("the least chance", least.box(0, 0, 0, 1), 1000);
  }

  private static void wordsThatAreAsked() {
    DOC.says("Terms III", "all BOXES at i, i + 3, .. are some; others aren't asked");
    for (int fewer = 0; fewer < 3; fewer++) {
      CharredRoll x = sheet();
      x.letter(0, 1);
      x.word(0, 0, 0, 1);
      x.word(0, 0, -1, 1);
      x.word(0, -1, -1, 1);
      int[][] asked = {{0, 3}, {1, 2}, {3, 2}, {4, 1}, {6, 1}, {7, 0}, {8, 0}, {9, 0}};
      isAsked(x, asked);
      x.wound(fewer, 2);
      isAsked(x, new int[][] {{0, 2}, {1, 1}, {3, 1}, {4, 0}});
      x.wound(fewer, 1);
      isAsked(x, new int[][] {{0, 1}, {1, 0}});
      x.wound(fewer, 4);
      isAsked(x, asked);
    }
    CharredRoll x = sheet();
    x.letter(0, 1);
    x.word(0, 0, 0, 1);
    DOC.is("at 0", x.joined(0, 3, 0, 0), 0);
    DOC.is("no word can be there", x.joined(0, 3, 1, 0), -1);
    DOC.is("no such slice", x.joined(0, 4, 0, 0), -1);
  }

  /** By place: how many of the words of three, two and one letters are asked, which are all as likely. */
  private static void isAsked(CharredRoll x, int[][] due) {
    for (int[] d : due) {
      for (int word = 0; word < 3; word++) {
        boolean is = 3 - word <= d[1];
        DOC.is("word " + word + " at " + d[0], x.joined(0, 0, d[0], 100 + word), is ? 1000 / d[1] : -1);
      }
      DOC.is("the word at " + d[0], x.joined(0, 0, d[0], 0), d[1] == 0 ? -1 : 3 - d[1]);
      DOC.is("its odds at " + d[0], x.joined(0, 0, d[0], 1), d[1] == 0 ? -1 : 1000 / d[1]);
    }
  }

  private static void shorterWords() {
    DOC.says("Terms III", "by 9 bits each that it is shorter than three LETTERS times HIT and MISS's greater, 9 to each");
    for (int hit = 1; hit <= 3; hit++) {
      for (int miss = 1; miss <= 3; miss++) {
        CharredRoll x = sheet();
        x.chances(hit, miss);
        // What is as likely as can be: letters that are all alike, or all unlike, by which of the two is greater.
        x.letter(hit >= miss ? 0 : 511, 1);
        x.letter(hit >= miss ? 1 : 510, 1);
        x.word(0, 0, 0, 1);
        x.word(0, 0, -1, 1);
        x.word(0, -1, -1, 1);
        for (int word = 0; word < 3; word++) {
          DOC.is("no likelier by " + hit + " and " + miss, x.joined(0, 0, 0, 100 + word), 333);
        }
        x.word(0, 1, -1, 1);
        int least = Math.min(hit, miss);
        int most = Math.max(hit, miss);
        DOC.is("one bit less by " + hit + " and " + miss, x.joined(0, 0, 0, 103), 1000 * least / (3 * most + least));
      }
    }
  }

  private static void theWord() {
    DOC.says("Terms III", "THE WORD: that of the greatest, of like ones the lowest");
    CharredRoll x = sheet();
    x.letter(0, 1);
    x.letter(1, 1);
    x.word(1, -1, -1, 3);
    DOC.is("one alone", x.joined(0, 0, 0, 0), 0);
    x.word(0, -1, -1, 1);
    DOC.is("of like ones the lowest", x.joined(0, 0, 0, 0), 0);
    x.word(0, 0, -1, 1);
    DOC.is("of like ones the lowest", x.joined(0, 0, 0, 0), 0);
    x.word(0, 0, 0, 2);
    DOC.is("likelier", x.joined(0, 0, 0, 0), 3);
    DOC.is("where that isn't asked", x.joined(0, 0, 1, 0), 0);
  }

  private static void oddsOfWords() {
    DOC.says("Terms III", "ODDS: thousandths of all, cut");
    CharredRoll x = sheet();
    for (int i = 0; i < 12; i++) {
      x.letter(0, 1);
    }
    for (int i = 0; i < 12; i++) {
      x.word(i, 11 - i, i, 99);
      DOC.is((i + 1) + " alike, the greatest chances", x.joined(0, 0, 0, 100 + i), 1000 / (i + 1));
    }
    DOC.is("the word", x.joined(0, 0, 0, 0), 0);
    DOC.is("its odds", x.joined(0, 0, 0, 1), 83);
    x.chances(1, 1);
    DOC.is("by the least chances", x.joined(0, 0, 0, 1), 83);
    CharredRoll y = sheet();
    y.letter(0, 1);
    y.letter(511, 1);
    y.word(0, 0, 0, 99);
    y.word(1, 1, 1, 1);
    DOC.is("nearly all", y.joined(0, 0, 0, 1), 999);
    DOC.is("nearly none", y.joined(0, 0, 0, 101), 0);
    CharredRoll least = sheet();
    least.chances(1, 1);
    least.letter(511, 1);
    least.word(0, 0, 0, 1);
    DOC.is("the least chance", least.joined(0, 0, 0, 1), 1000);
    DOC.is("the least chance", least.joined(0, 0, 0, 100), 1000);
  }

  private static void tenths() {
    DOC.says("Terms III", "each bit of a BOX is INK with q tenths (0 .. 10)");
    CharredRoll x = new CharredRoll(3, 4);
    x.letter(511, 1);
    long most = 1;
    for (int i = 0; i < 9; i++) {
      most *= 10;
    }
    DOC.is("none is ink", x.seen(0, 1), 0);
    DOC.is("all are ink", x.seen(10, 9), most);
    for (int q = 0; q <= 10; q++) {
      long all = 1;
      for (int i = 0; i < 9; i++) {
        all *= q;
      }
      DOC.is("all nine by " + q, x.seen(q, 9), all);
    }
    DOC.is("below", x.seen(-1, 5), -1);
    DOC.is("above", x.seen(11, 5), -1);
  }

  private static void likeAtManyBits() {
    DOC.says("Terms III", "some LETTER is LIKE at M (0 .. 9) bits or more");
    CharredRoll x = new CharredRoll(3, 4);
    x.letter(0, 1);
    // With q 5 every shape is as likely: those of so many bits or fewer, of 512.
    int[] shapes = {1, 9, 36, 84, 126, 126, 84, 36, 9, 1};
    long so = 0;
    for (int m = 9; m >= 0; m--) {
      so += shapes[9 - m];
      DOC.is("at " + m + " or more", x.seen(5, m), so * 1953125);
    }
    DOC.is("below", x.seen(5, -1), -1);
    DOC.is("above", x.seen(5, 10), -1);
    x.letter(511, 1);
    DOC.is("one or the other", x.seen(5, 9), 2 * 1953125);
    DOC.is("one or the other", x.seen(5, 5), 1000000000);
    DOC.is("one or the other", x.seen(5, 6), 1000000000 - 2 * 126 * 1953125);
    for (int i = 0; i < 10; i++) {
      x.letter(3 << i % 8, 1);
    }
    DOC.is("twelve, two of them twice", x.seen(5, 9), 10 * 1953125);
  }

  /** A word of two letters at slice 1 and place 1 that two readers see alike. */
  private static CharredRoll readable() {
    CharredRoll x = Rolls.threeTurns();
    x.reader();
    x.reader();
    x.letter(0, 1);
    x.word(0, 0, -1, 1);
    return x;
  }

  private static void learntFromNoGroup() {
    DOC.says("Terms III", "those count that learnt from no GROUP of a BIT at a PLACE of the WORD's BOXES");
    for (int slice = 0; slice < 6; slice++) {
      for (int place = 0; place < 9; place++) {
        CharredRoll x = readable();
        x.learnt(0, 4);
        x.bit(slice, place, true, 2);
        boolean under = slice >= 1 && slice <= 3 && place >= 1 && place <= 6;
        DOC.is("a bit at " + slice + ", " + place, x.printed(1, 1, 1, 0, 1), under ? -1 : 0);
        DOC.is("of two", x.printed(3, 1, 1, 0, 2), under ? -1 : 0);
        DOC.is("the other", x.printed(2, 1, 1, 0, 1), 0);
      }
    }
    CharredRoll x = readable();
    for (int group = 0; group < 4; group++) {
      x.bit(2, 2, false, group);
      for (int set = 0; set < 16; set++) {
        x.learnt(0, set);
        DOC.is("group " + group + ", learnt from " + set, x.printed(1, 1, 1, 0, 1), (set >> group & 1) == 1 ? -1 : 0);
      }
    }
    CharredRoll one = sheet();
    one.letter(0, 1);
    one.word(0, -1, -1, 1);
    one.learnt(0, 15);
    one.bit(0, 3, true, 0);
    DOC.is("a bit behind a word of one letter", one.printed(1, 0, 0, 0, 1), 0);
    one.bit(2, 2, true, 0);
    DOC.is("a bit under it", one.printed(1, 0, 0, 0, 1), -1);
  }

  private static void oddsOfP() {
    DOC.says("Terms III", "to which it is THE WORD with ODDS of P (0 .. 1000) or more");
    CharredRoll x = sheet();
    x.letter(0, 1);
    x.word(0, -1, -1, 50);
    for (int p : new int[] {0, 999, 1000}) {
      DOC.is("odds of 1000, by " + p, x.printed(1, 0, 0, p, 1), 0);
    }
    x.word(0, 0, -1, 50);
    DOC.is("odds", x.joined(0, 0, 0, 1), 500);
    DOC.is("so much", x.printed(1, 0, 0, 500, 1), 0);
    DOC.is("one more", x.printed(1, 0, 0, 501, 1), -1);
    x.word(0, 0, 0, 50);
    DOC.is("cut", x.printed(1, 0, 0, 333, 1), 0);
    DOC.is("one more", x.printed(1, 0, 0, 334, 1), -1);
    DOC.is("none too little", x.printed(1, 0, 0, 0, 1), 0);
    DOC.is("below", x.printed(1, 0, 0, -1, 1), -1);
    DOC.is("above", x.printed(1, 0, 0, 1001, 1), -1);
  }

  private static void eachLetterByInk() {
    DOC.says("Terms III", "to which each of its LETTERS is the one BY INK alone in its BOX");
    for (int at = 0; at < 3; at++) {
      CharredRoll x = sheet();
      x.letter(0, 5);
      x.letter(1, 5);
      x.word(0, 0, 0, 99);
      DOC.is("each is", x.printed(1, 0, 0, 0, 1), 0);
      // One bit of ink at one of the three: by it alone the letter there is the other.
      Rolls.draw(x, 0, 3 * at, 1);
      DOC.is("the word still", x.joined(0, 0, 0, 0), 0);
      DOC.is("all but that at " + at, x.printed(1, 0, 0, 0, 1), -1);
    }
    CharredRoll y = sheet();
    y.letter(0, 5);
    y.letter(1, 5);
    y.word(0, -1, -1, 99);
    Rolls.draw(y, 0, 3, 1);
    DOC.is("what is behind the word's end doesn't matter", y.printed(1, 0, 0, 0, 1), 0);
    CharredRoll z = sheet();
    z.letter(0, 5);
    z.letter(0, 5);
    z.word(1, -1, -1, 99);
    DOC.is("the same bits of a lower number are the one by ink", z.printed(1, 0, 0, 0, 1), -1);
  }

  private static void manyCount() {
    DOC.says("Terms III", "a WORD for which M (1 .. 4) or more count; of two the one for which more do, then the lower");
    CharredRoll x = Rolls.threeTurns();
    x.reader();
    x.reader();
    Rolls.read(x, "ink 1=1;");
    Rolls.read(x, "ink 1=1;");
    x.letter(511, 1);
    x.letter(0, 1);
    x.word(0, -1, -1, 1);
    x.word(1, -1, -1, 1);
    // Readers 0 and 1 see word 1, readers 2 and 3 word 0.
    int[] due = {-1, 1, 1, 1, 0, 0, 0, 1, 0, 0, 0, 1, 0, 0, 0, 0};
    for (int set = 0; set < 16; set++) {
      DOC.is("by " + set, x.printed(set, 0, 0, 0, 1), due[set]);
      int most = Math.max(Integer.bitCount(set & 3), Integer.bitCount(set & 12));
      for (int m = 2; m <= 4; m++) {
        DOC.is(m + " by " + set, x.printed(set, 0, 0, 0, m), most >= m ? due[set] : -1);
      }
    }
    DOC.is("none must count", x.printed(15, 0, 0, 0, 0), -1);
    DOC.is("five must count", x.printed(15, 0, 0, 0, 5), -1);
    CharredRoll y = Rolls.threeTurns();
    for (int i = 0; i < 4; i++) {
      y.reader();
    }
    y.letter(0, 1);
    y.word(0, 0, 0, 1);
    for (int m = 1; m <= 4; m++) {
      DOC.is("all four", y.printed(15, 0, 0, 1000, m), 0);
      DOC.is("three", y.printed(14, 0, 0, 1000, m), m < 4 ? 0 : -1);
    }
  }

  private static void letter() {
    DOC.says("Promise 20", "A LETTER (nine bits): its number. NONE for others");
    DOC.limits("letter", Rolls::some, (x, a) -> x.letter(a[0], a[1]), -1, new int[] {1, 1},
        new int[][] {{0, 511}, {1, 99}});
    DOC.is("the same once more", Rolls.some().letter(0b000000111, 20), 3);
    DOC.says("Promise 20", "or if there are 12");
    DOC.is("twelve", twelveLetters().about(6), 12);
    DOC.refuses("letter", EdgesOfWordsTest::twelveLetters, (x, a) -> x.letter(a[0], a[1]), -1, 0, 1);
    DOC.refuses("letter", EdgesOfWordsTest::twelveLetters, (x, a) -> x.letter(a[0], a[1]), -1, 511, 99);
    CharredRoll x = twelveLetters();
    x.back();
    DOC.is("with fewer there is room", x.letter(0, 1), 2);
  }

  private static void word() {
    DOC.says("Promise 21", "A WORD of one to three LETTERS (NONE: none more): its number. NONE for others");
    Edges.Call word = (x, a) -> x.word(a[0], a[1], a[2], a[3]);
    DOC.limits("word", Rolls::some, word, -1, new int[] {2, 2, 2, 50}, new int[][] {{0, 2}, {0, 2}, {-1, 2}, {1, 99}});
    DOC.limits("word", Rolls::some, word, -1, new int[] {2, 2, -1, 50}, new int[][] {{0, 2}, {-1, 2}, {-1, 2}, {1, 99}});
    DOC.limits("word", Rolls::some, word, -1, new int[] {2, -1, -1, 50}, new int[][] {{1, 2}, {-1, 2}});
    DOC.refuses("word without letters", Rolls::some, word, -1, -1, -1, -1, 50);
    DOC.refuses("word without a first letter", Rolls::some, word, -1, -1, 0, -1, 50);
    DOC.refuses("word without a first letter", Rolls::some, word, -1, -1, 0, 0, 50);
    DOC.refuses("word without a first letter", Rolls::some, word, -1, -1, -1, 0, 50);
    DOC.refuses("word with a gap", Rolls::some, word, -1, 2, -1, 0, 50);
    DOC.is("no letters yet", new CharredRoll(3, 4).word(0, -1, -1, 1), -1);
    DOC.says("Promise 21", "one that is there");
    DOC.refuses("word", Rolls::some, word, -1, 0, -1, -1, 5);
    DOC.refuses("word of another weight", Rolls::some, word, -1, 0, -1, -1, 6);
    DOC.refuses("word", Rolls::some, word, -1, 0, 1, -1, 99);
    DOC.refuses("word", Rolls::some, word, -1, 1, 2, 0, 1);
    DOC.is("the same letters otherwise", Rolls.some().word(1, 0, 2, 7), 3);
    DOC.is("one letter more", Rolls.some().word(0, 1, 0, 7), 3);
    DOC.is("one letter less", Rolls.some().word(1, 2, -1, 7), 3);
    DOC.says("Promise 21", "or if there are 12");
    DOC.is("twelve", twelveWords().about(7), 12);
    DOC.refuses("word", EdgesOfWordsTest::twelveWords, word, -1, 2, -1, -1, 1);
    DOC.refuses("word", EdgesOfWordsTest::twelveWords, word, -1, 2, 2, 2, 99);
    CharredRoll x = twelveWords();
    x.back();
    DOC.is("with fewer there is room", x.word(1, 1, 1, 1), 2);
    DOC.is("what was there isn't now", x.word(1, 0, 1, 1), 3);
  }

  private static void chances() {
    DOC.says("Promise 22", "HIT, MISS: true. False for others");
    DOC.limits("chances", Rolls::some, (x, a) -> Edges.num(x.chances(a[0], a[1])), 0, new int[] {3, 3},
        new int[][] {{1, 3}, {1, 3}});
  }

  private static void box() {
    DOC.says("Promise 23", "0 the LETTER BY INK, 1 its ODDS, 100 + letter: LIKE");
    CharredRoll x = Rolls.some();
    for (int what : new int[] {0, 1, 100, 102}) {
      DOC.taken("what " + what, x.box(0, 0, 0, what), -1);
    }
    for (int what : new int[] {-1, 2, 99, 103, 112, 200, -100, MIN, MIN + 99, MAX}) {
      DOC.is("what " + what, x.box(0, 0, 0, what), -1);
    }
    CharredRoll full = twelveLetters();
    DOC.taken("the last of twelve", full.box(0, 0, 0, 111), -1);
    DOC.is("one behind", full.box(0, 0, 0, 112), -1);
    DOC.says("Promise 23", "NONE: no such BOX, no LETTERS, and for others");
    DOC.limits("box", Rolls::some, (y, a) -> y.box(a[0], a[1], a[2], 0), -1, new int[] {0, 0, 0},
        new int[][] {{0, 1}, {0, 3}, {0, 6}});
    for (int place : new int[] {MAX - 1, MAX - 2, MIN + 1}) {
      DOC.is("at " + place, x.box(0, 0, place, 0), -1);
    }
    CharredRoll empty = sheet();
    for (int what : new int[] {0, 1, 100}) {
      DOC.is("no letters", empty.box(0, 0, 0, what), -1);
    }
    DOC.is("no readers", Rolls.threeTurns().box(0, 0, 0, 0), -1);
  }

  private static void joined() {
    DOC.says("Promise 24", "0 THE WORD, 1 its ODDS, 100 + word: ODDS (NONE of one that isn't asked)");
    CharredRoll x = Rolls.some();
    for (int what : new int[] {0, 1, 100, 101, 102}) {
      DOC.taken("what " + what, x.joined(0, 0, 0, what), -1);
    }
    for (int what : new int[] {-1, 2, 99, 103, 112, 200, -100, MIN, MIN + 99, MAX}) {
      DOC.is("what " + what, x.joined(0, 0, 0, what), -1);
    }
    DOC.is("a word of three letters where there are two boxes", x.joined(0, 0, 1, 102), -1);
    CharredRoll full = twelveWords();
    DOC.taken("the last of twelve", full.joined(0, 0, 0, 111), -1);
    DOC.is("one behind", full.joined(0, 0, 0, 112), -1);
    DOC.says("Promise 24", "NONE: no WORD can be there, and for others");
    DOC.limits("joined", Rolls::some, (y, a) -> y.joined(a[0], a[1], a[2], 0), -1, new int[] {0, 0, 0},
        new int[][] {{0, 1}, {0, 3}, {0, 6}});
    for (int place : new int[] {MAX - 1, MAX - 5, MAX - 6, MAX - 8, MIN + 1}) {
      DOC.is("at " + place, x.joined(0, 0, place, 0), -1);
    }
    CharredRoll empty = sheet();
    empty.letter(0, 1);
    for (int what : new int[] {0, 1, 100}) {
      DOC.is("no words", empty.joined(0, 0, 0, what), -1);
    }
    DOC.is("no readers", Rolls.threeTurns().joined(0, 0, 0, 0), -1);
    // A look that found words leaves nothing for one that finds none.
    DOC.taken("a word", x.joined(0, 0, 0, 0), -1);
    DOC.is("behind it none", x.joined(0, 0, 7, 100), -1);
  }

  private static void seen() {
    DOC.says("Promise 25", "SEEN where nothing is (0 without LETTERS). NONE for others");
    DOC.limits("seen", Rolls::some, (x, a) -> x.seen(a[0], a[1]), -1, new int[] {5, 5}, new int[][] {{0, 10}, {0, 9}});
    CharredRoll x = new CharredRoll(3, 4);
    for (int m = 0; m <= 9; m++) {
      for (int q : new int[] {0, 5, 10}) {
        DOC.is("without letters", x.seen(q, m), 0);
      }
    }
    DOC.is("without letters for others too", x.seen(11, 0), -1);
    DOC.is("without letters for others too", x.seen(-1, 0), -1);
    DOC.is("without letters for others too", x.seen(0, 10), -1);
    DOC.is("without letters for others too", x.seen(0, -1), -1);
    x.letter(0, 1);
    DOC.is("with one", x.seen(0, 9), 1000000000);
    x.back();
    DOC.is("without it again", x.seen(0, 9), 0);
  }

  private static void printed() {
    DOC.says("Promise 26", "PRINTED: the WORD. NONE: none, and for others (READERS that are told alone)");
    DOC.limits("printed", EdgesOfWordsTest::readable, (x, a) -> x.printed(a[0], a[1], a[2], a[3], a[4]), -1,
        new int[] {3, 1, 1, 1000, 1}, new int[][] {{1, 3}, {0, 3}, {0, 3}, {0, 1000}, {1, 2}});
    for (int set : new int[] {4, 5, 7, 8, 15, 16, 1 << 31, (1 << 31) + 1, -2}) {
      DOC.is("with a reader that isn't told: " + set, readable().printed(set, 1, 1, 0, 1), -1);
    }
    DOC.is("no readers", Rolls.threeTurns().printed(0, 0, 0, 0, 1), -1);
    DOC.is("no readers", Rolls.threeTurns().printed(1, 0, 0, 0, 1), -1);
    DOC.is("none of those that are told", readable().printed(0, 1, 1, 0, 1), -1);
    DOC.is("no words", sheet().printed(1, 0, 0, 0, 1), -1);
    CharredRoll four = readable();
    four.reader();
    four.reader();
    DOC.is("four", four.printed(15, 1, 1, 1000, 4), 0);
    DOC.is("a fifth", four.printed(31, 1, 1, 1000, 1), -1);
    DOC.is("a fifth alone", four.printed(16, 1, 1, 1000, 1), -1);
    for (int place : new int[] {MAX - 1, MAX - 5, MIN + 1}) {
      DOC.is("at " + place, four.printed(15, 1, place, 0, 1), -1);
    }
    Rolls.tear(four, 3);
    DOC.is("without a spiral under it", four.printed(15, 1, 1, 0, 1), -1);
    DOC.is("beside it", four.printed(15, 0, 1, 0, 1), 0);
  }
}
