import java.util.Arrays;
import java.util.function.Supplier;

/** The boundary cases that the document names in part II of its terms and in promises 12 to 19, a sentence at a time. */
public final class EdgesOfReadersTest {
  private static final int MIN = Edges.MIN;
  private static final int MAX = Edges.MAX;
  private static final Edges DOC = new Edges();
  private static final String TEN = "ink 1=2;".repeat(10);
  private static final String NOTS = "not ".repeat(8);

  public static void main(String[] args) {
    fourReadersAtMost();
    textsOfThreeHundredBytes();
    blanks();
    letters();
    numbers();
    theLongest();
    tenClauses();
    asOftenAsOneLikes();
    notAsk();
    comparisons();
    namesAtTheirEnds();
    inAndOut();
    sharp();
    division();
    aMillion();
    inkAndBare();
    firstFault();
    whereFaultsAre();
    leastFault();
    faultOne();
    faultTwo();
    faultThree();
    faultFour();
    sixtyBitsAtMost();
    latestOfBoth();
    learntFromASet();
    rightOfPlacesThatAre();
    feed();
    end();
    reader();
    fault();
    ink();
    bit();
    learnt();
    right();
    DOC.close();
  }

  /** A text of its own roll: whether it is a reader, its fault and the fault's place; the tape is empty then. */
  private static void isText(String text, int fault, int place) {
    CharredRoll x = new CharredRoll(3, 4);
    String told = "'" + text + "'";
    DOC.is("reader of " + told, Rolls.read(x, text), fault == 0 ? 0 : -1);
    DOC.is("fault of " + told, x.fault(0), fault);
    DOC.is("place of the fault of " + told, x.fault(1), place);
    DOC.is("readers by " + told, x.about(2), fault == 0 ? 1 : 0);
    DOC.is("the tape behind " + told, x.about(9), 0);
  }

  private static void isSound(String text) {
    isText(text, 0, -1);
  }

  /** What a reader's text answers at place 0 of a slice without grey and crack. */
  private static int inkOf(String text) {
    CharredRoll x = new CharredRoll(3, 4);
    Rolls.read(x, text);
    return x.ink(0, 0, 0);
  }

  private static void isSo(String question) {
    DOC.is(question, inkOf("ink " + question + ";"), 1);
    DOC.is("not " + question, inkOf("ink not " + question + ";"), 0);
  }

  private static void fourReadersAtMost() {
    DOC.says("Terms II", "READERS 0 .. 3");
    CharredRoll x = new CharredRoll(3, 4);
    for (int number = 0; number < 4; number++) {
      DOC.is("ink by one that isn't there yet", x.ink(number, 0, 0), -1);
      DOC.is("a reader", Rolls.read(x, "ink 1=1;"), number);
      DOC.is("ink by it", x.ink(number, 0, 0), 1);
    }
    DOC.is("a fifth", Rolls.read(x, "ink 1=1;"), -1);
    for (int number : new int[] {-1, 4, MIN, MAX}) {
      DOC.is("ink by " + number, x.ink(number, 0, 0), -1);
    }
    DOC.is("four", x.about(2), 4);
  }

  private static void textsOfThreeHundredBytes() {
    DOC.says("Terms II", "texts of up to 300 bytes");
    isSound(" ".repeat(300));
    isSound(" ".repeat(292) + "ink 1=1;");
    isText(" ".repeat(293) + "ink 1=1", 1, 300);
    isText(" ".repeat(291) + "ink 1=1;!", 1, 299);
    isText("i".repeat(300), 1, 0);
    isText("ink " + "1".repeat(296), 2, 4);
    isText("ink " + "0".repeat(296), 1, 300);
    isText(" ".repeat(296) + "ink ", 1, 300);
    DOC.is("the last byte counts", inkOf(" ".repeat(292) + "ink 1=1;"), 1);
    isSound("");
  }

  private static void blanks() {
    DOC.says("Terms II", "TOKENS, blanks (32, 10) aside");
    for (int b = 0; b < 256; b++) {
      char sign = (char) b;
      String text = "ink" + sign + "1=1;";
      if (b == 32 || b == 10 || b == '-' || Character.isDigit(sign)) {
        isSound(text);
      } else if (Character.isLetter(sign) && b < 128) {
        isText(text, 1, 0);
      } else {
        isText(text, 1, b == '(' ? 5 : 3);
      }
    }
    isSound("\n ink\n1 =\n\n1 ; \n");
    isSound("ink 1=1;ink 1=1;");
    isSound("ink1=1or1=2;");
  }

  private static void letters() {
    DOC.says("Terms II", "letters a .. z, A .. Z one behind the other (one TOKEN)");
    for (int b = 0; b < 256; b++) {
      // Behind a 1 no letter can stand, and beside it only what compares; the rest can't end there.
      char sign = (char) b;
      String text = "ink 1" + sign + "1;";
      if ("<>=#".indexOf(sign) >= 0) {
        isSound(text);
      } else if (Character.isDigit(sign) || "+-*/".indexOf(sign) >= 0) {
        isText(text, 1, 7);
      } else {
        isText(text, 1, b == 32 || b == 10 ? 6 : 5);
      }
    }
    for (char sign : new char[] {'a', 'z', 'A', 'Z'}) {
      isText("ink grey" + sign + "=1;", 1, 4);
      isText("ink " + sign + "grey=1;", 1, 4);
    }
    for (char sign : new char[] {'`', '{', '@', '['}) {
      isText("ink grey" + sign + "=1;", 1, 8);
      isText("ink " + sign + "grey=1;", 1, 4);
    }
    isText("ink gr ey=1;", 1, 4);
    isText("INK 1=1;", 1, 0);
    isText("ink GREY=1;", 1, 4);
    isText("ink 1=1 OR 1=1;", 1, 8);
  }

  private static void numbers() {
    DOC.says("Terms II", "digits likewise (NUMBERS, 0 .. 9999)");
    isSound("ink 0=9999;");
    isText("ink 0=10000;", 2, 6);
    isSo("0<1");
    isSo("9999>9998");
    isSo("9999=9998+1");
    isSo("0=1-1");
    isSo("0009=9");
    isSo("09999=9999");
    isText("ink 1 0=10;", 1, 6);
  }

  private static void theLongest() {
    DOC.says("Terms II", "<= >= < > = # + - * / ( ) ; (the longest)");
    isSo("1<=1");
    isSo("1>=1");
    isText("ink 1< =1;", 1, 7);
    isText("ink 1> =1;", 1, 7);
    isText("ink 1=<1;", 1, 6);
    isText("ink 1=>1;", 1, 6);
    isText("ink 1<<1;", 1, 6);
    isText("ink 1<>1;", 1, 6);
    isText("ink 1<==1;", 1, 7);
    isText("ink 1==1;", 1, 6);
    isText("ink 1##1;", 1, 6);
    isText("ink 1<", 1, 6);
    isText("ink 1<=", 1, 7);
  }

  private static void tenClauses() {
    DOC.says("Terms II", "{CLAUSE}, 10 at most");
    isSound("");
    isSound("ink 1=2;");
    isSound(TEN);
    isText(TEN + "ink 1=2;", 4, 80);
    DOC.is("none is ink", inkOf(TEN), 0);
    DOC.is("the tenth is", inkOf(TEN.substring(8) + "ink 1=1;"), 1);
    DOC.is("the first is", inkOf("ink 1=1;" + TEN.substring(8)), 1);
    DOC.is("the tenth is bare", inkOf("ink 1=1;" + TEN.substring(16) + "bare 1=1;"), 0);
    isSound("bare 1=1;".repeat(10));
    isText("bare 1=1;".repeat(10) + "bare 1=1;", 4, 90);
  }

  private static void asOftenAsOneLikes() {
    DOC.says("Terms II", "EITHER: BOTH {or BOTH}");
    isSo("1=1");
    DOC.is("the last of many", inkOf("ink " + "1=2 or ".repeat(41) + "1=1;"), 1);
    DOC.is("none of many", inkOf("ink " + "1=2 or ".repeat(41) + "1=2;"), 0);
    DOC.says("Terms II", "BOTH: ASK {and ASK}");
    DOC.is("all of many", inkOf("ink " + "1=1 and ".repeat(36) + "1=1;"), 1);
    DOC.is("all but the last of many", inkOf("ink " + "1=1 and ".repeat(36) + "1=2;"), 0);
    DOC.is("all but the first of many", inkOf("ink 1=2" + " and 1=1".repeat(36) + ";"), 0);
    DOC.says("Terms II", "SUM: PRODUCT {+ or - PRODUCT}");
    isSo("1" + "+1".repeat(140) + "=141");
    isSo("0" + "-1".repeat(140) + "=-140");
    DOC.says("Terms II", "PRODUCT: ONE {* or / ONE}");
    isSo("1" + "*1".repeat(60) + "*7=7");
    isSo("9999" + "/3".repeat(9) + "=0");
    isSo("9999" + "/3".repeat(8) + "=1");
    DOC.says("Terms II", "ONE: NUMBER, NAME, ( SUM ), - ONE");
    isSo("1+1*(".repeat(7) + "1" + ")".repeat(7) + "=8");
    DOC.is("all kinds at once", inkOf("ink 1=2 or 1=1 and 9=" + "1+1*(".repeat(8) + "1" + ")".repeat(8) + ";"), 1);
    DOC.is("all kinds at once", inkOf("ink 1=2 or 1=1 and 8=" + "1+1*(".repeat(8) + "1" + ")".repeat(8) + ";"), 0);
  }

  private static void notAsk() {
    DOC.says("Terms II", "ASK: not ASK");
    for (int nots = 0; nots <= 8; nots++) {
      DOC.is(nots + " times not", inkOf("ink " + "not ".repeat(nots) + "1=1;"), 1 - nots % 2);
      DOC.is(nots + " times not", inkOf("ink " + "not ".repeat(nots) + "1=2;"), nots % 2);
    }
    DOC.is("of the first alone", inkOf("ink not 1=1 or 1=1;"), 1);
    DOC.is("of the first alone", inkOf("ink not 1=2 and 1=2;"), 0);
  }

  private static void comparisons() {
    DOC.says("Terms II", "SUM one of < <= > >= = # (unlike) SUM");
    String[] signs = {"<", "<=", ">", ">=", "=", "#"};
    // One below the other, like it, one above it.
    int[][] due = {{1, 0, 0}, {1, 1, 0}, {0, 0, 1}, {0, 1, 1}, {0, 1, 0}, {1, 0, 1}};
    for (int i = 0; i < 6; i++) {
      for (int other : new int[] {1, 9998}) {
        for (int more = -1; more <= 1; more++) {
          DOC.is(signs[i], inkOf("ink " + (other + more) + signs[i] + other + ";"), due[i][more + 1]);
          DOC.is(signs[i], inkOf("ink -" + other + signs[i] + "-" + (other + more) + ";"), due[i][more + 1]);
        }
      }
    }
  }

  /** Whether a question is so at a place. */
  private static void isSoAt(CharredRoll x, int slice, int place, String question) {
    x.image();
    int reader = Rolls.read(x, "ink " + question + ";");
    DOC.is(question + " at " + slice + ", " + place, x.ink(reader, slice, place), 1);
    x.back();
  }

  private static void namesAtTheirEnds() {
    DOC.says("Terms II", "NAMES of a SLICE and PLACE (by THE BEST): grey crack radius turn angle slice");
    CharredRoll x = new CharredRoll(6, 12);
    isSoAt(x, 0, 0, "grey=0 and crack=0 and radius=0 and turn=0 and angle=0 and slice=0");
    x.wound(5, 4);
    x.grey(5, 5, 11, 9, 9);
    isSoAt(x, 5, 23, "grey=9 and crack=9 and radius=11 and turn=3 and angle=5 and slice=5");
    isSoAt(x, 5, 18, "turn=3 and angle=0");
    isSoAt(x, 5, 17, "turn=2 and angle=5");
  }

  private static void inAndOut() {
    DOC.says("Terms II", "in (the GREY at the RADIUS below; 0 without)");
    CharredRoll x = new CharredRoll(3, 4);
    for (int slice : new int[] {0, 1, 4, 5}) {
      x.wound(slice, 1);
      for (int place = 0; place < 3; place++) {
        x.pin(slice, place, slice % 2 == 0 ? 0 : 3);
      }
      for (int angle = 0; angle < 3; angle++) {
        x.column(slice, angle, slice % 2 == 0 ? 9870 + angle : 1000 * angle + 789);
      }
    }
    for (int slice : new int[] {0, 4}) {
      for (int place = 0; place < 3; place++) {
        isSoAt(x, slice, place, "in=0 and out=7 and grey=" + place);
      }
    }
    DOC.says("Terms II", "out (above)");
    for (int slice : new int[] {1, 5}) {
      for (int place = 0; place < 3; place++) {
        isSoAt(x, slice, place, "out=0 and in=7 and grey=" + place);
      }
    }
    x.wound(2, 1);
    x.column(2, 0, 9876);
    x.column(2, 1, 1234);
    x.column(2, 2, 5678);
    x.pin(2, 0, 1);
    x.pin(2, 1, 2);
    x.pin(2, 2, 1);
    isSoAt(x, 2, 0, "in=6 and grey=7 and out=8 and radius=1");
    isSoAt(x, 2, 1, "in=3 and grey=2 and out=1 and radius=2");
    isSoAt(x, 2, 2, "in=8 and grey=7 and out=6 and radius=1");
  }

  private static void sharp() {
    DOC.says("Terms II", "sharp (CRACK less the CRACK of the PLACE ahead; of PLACE 0 CRACK)");
    CharredRoll x = new CharredRoll(3, 4);
    // THE BEST goes 0 0 0 1 1 1.
    x.grey(1, 0, 0, 0, 9);
    x.grey(1, 1, 0, 0, 0);
    x.grey(1, 2, 0, 0, 4);
    x.grey(1, 0, 1, 0, 9);
    x.grey(1, 2, 1, 0, 7);
    // The last place of slice 0, which lies ahead of slice 1 wherever they lie in one row.
    x.grey(0, 2, 1, 0, 5);
    x.grey(0, 2, 3, 0, 5);
    int[] due = {9, -9, 4, 5, -9, 7};
    for (int place = 0; place < 6; place++) {
      isSoAt(x, 1, place, "sharp=" + due[place]);
    }
    isSoAt(x, 2, 0, "sharp=0");
    isSoAt(x, 0, 0, "sharp=0");
    isSoAt(x, 0, 5, "sharp=5");
  }

  private static void division() {
    DOC.says("Terms II", "/ cuts towards 0, by 0 it is 0");
    for (String sum : new String[] {"7/2=3", "-7/2=-3", "7/-2=-3", "-7/-2=3", "1/2=0", "-1/2=0", "1/-2=0", "0/5=0", "5/0=0",
        "-5/0=0", "0/0=0", "5/(1-1)=0", "1000*1000/0=0", "5/0+1=1", "6/3=2", "-6/3=-2", "9999/9999=1", "1/9999=0",
        "5/-0=0", "grey/radius=0", "1/grey=0", "8/0/0=0", "1=1 or 5/0=1"}) {
      isSo(sum);
    }
  }

  private static void aMillion() {
    DOC.says("Terms II", "what is above 1000000 (below the same less) is that, at each step");
    for (String sum : new String[] {"1000*1000>999*1000+999", "1000*1000-1=999*1000+999", "1000*1000+0=1000*1000",
        "1000*1000+1=1000*1000", "1000*1000+1-1=999*1000+999", "1+1000*1000=1000*1000", "1000*1001=1000*1000",
        "1001*1000-1=999*1000+999", "9999*9999=1000*1000", "9999*9999*9999=1000*1000",
        "(9999*9999)*(9999*9999)=1000*1000", "9999*9999/1000=1000", "9999*9999+9999*9999=1000*1000",
        "9999*9999-9999*9999=0", "1000*1000--1=1000*1000", "--(9999*9999)=1000*1000"}) {
      isSo(sum);
    }
    for (String sum : new String[] {"-1000*1000<-(999*1000+999)", "-1000*1000+1=-(999*1000+999)",
        "-1000*1000-0=-1000*1000", "-1000*1000-1=-1000*1000", "-1000*1000-1+1=-(999*1000+999)",
        "1000*-1001=-1000*1000", "-(9999*9999)=-1000*1000", "0-9999*9999-9999*9999=-1000*1000",
        "(0-9999*9999)*(9999*9999)=-1000*1000", "(0-9999*9999)*(0-9999*9999)=1000*1000", "-9999*9999/1000=-1000",
        "-1000*1000+-1=-1000*1000"}) {
      isSo(sum);
    }
  }

  private static void inkAndBare() {
    DOC.says("Terms II", "INK at a PLACE by a READER: an ink clause is so and no bare clause");
    DOC.is("no clause", inkOf(""), 0);
    DOC.is("ink", inkOf("ink 1=1;"), 1);
    DOC.is("no ink", inkOf("ink 1=2;"), 0);
    DOC.is("bare", inkOf("bare 1=1;"), 0);
    DOC.is("not bare", inkOf("bare 1=2;"), 0);
    DOC.is("both", inkOf("ink 1=1;bare 1=1;"), 0);
    DOC.is("both, bare first", inkOf("bare 1=1;ink 1=1;"), 0);
    DOC.is("ink and not bare", inkOf("bare 1=2;ink 1=1;"), 1);
    DOC.is("one of two", inkOf("ink 1=2;ink 1=1;"), 1);
    DOC.is("one of two", inkOf("ink 1=1;ink 1=2;"), 1);
    DOC.is("one of two bare", inkOf("ink 1=1;bare 1=2;bare 1=1;"), 0);
    DOC.is("one of two bare", inkOf("ink 1=1;bare 1=1;bare 1=2;"), 0);
  }

  private static void firstFault() {
    DOC.says("Terms II", "FAULTS, the first as TOKENS are come to");
    isText("ink ! 10000", 1, 4);
    isText("ink 10000 !", 2, 4);
    isText("ink 1=10000=!", 2, 6);
    isText("ink " + NOTS + "not 10000!", 3, 36);
    isText("ink 10000=" + NOTS + "not", 2, 4);
    isText("!" + TEN + "ink", 1, 0);
    isText(TEN + "ink 10000!", 4, 80);
    isText("ink 1=1;!;?", 1, 8);
  }

  private static void whereFaultsAre() {
    DOC.says("Terms II", "at the TOKEN's first byte (of the end at the length)");
    isText("ink", 1, 3);
    isText("ink ", 1, 4);
    isText("ink \n ", 1, 6);
    isText("ink 1=1", 1, 7);
    isText("ink 1=1 \n", 1, 9);
    isText("ink 1=1;bare", 1, 12);
    isText("ink  wrong=1;", 1, 5);
    isText("ink 1  <=<=1;", 1, 9);
    isText("ink 1=  10000;", 2, 8);
    isText("  x", 1, 2);
    isText("ink (", 1, 5);
    isText("ink not", 1, 7);
  }

  private static void leastFault() {
    DOC.says("Terms II", "of one the least");
    isText("10000", 1, 0);
    isText("ink 1 10000=1;", 1, 6);
    isText("ink 1=1 10000;", 1, 8);
    isText("ink ((((((((1(", 1, 13);
    isText("ink ((((((((1 not", 1, 14);
    isText("ink ((((((((not", 1, 12);
    isText(TEN + "10000", 1, 80);
    isText(TEN + "(", 1, 80);
    isText(TEN + "not", 1, 80);
    isText(TEN + ";", 1, 80);
  }

  private static void faultOne() {
    DOC.says("Terms II", "1 it can't stand there, or is none");
    String[] tokens = {"ink ", "bare ", "or ", "and ", "not ", "grey ", "1 ", "=", "+", "-", "(", ")", ";", "?", "inky "};
    // Where the text goes on behind each: which of the tokens can stand there.
    Object[][] texts = {
        {"", "ink ,bare "}, {"ink ", "not ,grey ,1 ,-,("}, {"ink 1 ", "=,+,-"}, {"ink 1=", "grey ,1 ,-,("},
        {"ink 1=1 ", "or ,and ,+,-,;"}, {"ink 1=1;", "ink ,bare "}, {"ink 1=1 or ", "not ,grey ,1 ,-,("},
        {"ink not ", "not ,grey ,1 ,-,("}, {"ink (", "grey ,1 ,-,("}, {"ink (1 ", "+,-,)"}, {"ink (1)", "=,+,-"},
        {"ink 1+", "grey ,1 ,-,("}, {"ink -", "grey ,1 ,-,("}, {"ink 1=(1 ", "+,-,)"}, {"ink 1=(1)", "or ,and ,+,-,;"},
        {"ink not 1=1 ", "or ,and ,+,-,;"}, {"ink ((1)", "+,-,)"}, {"ink 1=1 and ", "not ,grey ,1 ,-,("},
        {"ink 1*", "grey ,1 ,-,("}, {"ink 1+1 ", "=,+,-"},
    };
    for (Object[] t : texts) {
      String text = (String) t[0];
      for (String token : tokens) {
        boolean can = Arrays.asList(((String) t[1]).split(",")).contains(token);
        // What can stand is read on: the fault is then the sign behind it, unless that is where a clause begins.
        isText(text + token + "!", 1, text.length() + (can ? token.length() : 0));
      }
    }
  }

  private static void faultTwo() {
    DOC.says("Terms II", "2 a NUMBER above 9999");
    isSound("ink 9999=9999;");
    isText("ink 10000=1;", 2, 4);
    isText("ink 1=10000;", 2, 6);
    isText("ink 99999=1;", 2, 4);
    isText("ink 010000=1;", 2, 4);
    isSound("ink 00009999=1;");
    isText("ink 2147483648=1;", 2, 4);
    isText("ink 4294967297=1;", 2, 4);
    isText("ink 18446744073709551617=1;", 2, 4);
    isText("ink " + "1".repeat(290) + "=1;", 2, 4);
    isSound("ink " + "0".repeat(290) + "1=1;");
    isText("ink -10000=1;", 2, 5);
    isText("ink (10000)=1;", 2, 5);
  }

  private static void faultThree() {
    DOC.says("Terms II", "3 the 9th of ( not and - (of one ONE) that are open around one another (at it)");
    String open = "((((((((";
    String shut = "))))))))";
    String less = "--------";
    isSound("ink " + open + "1" + shut + "=1;");
    isText("ink " + open + "(1)" + shut + "=1;", 3, 12);
    isSound("ink " + NOTS + "1=1;");
    isText("ink " + NOTS + "not 1=1;", 3, 36);
    isSound("ink " + less + "1=1;");
    isText("ink " + less + "-1=1;", 3, 12);
    isText("ink " + NOTS + "-1=1;", 3, 36);
    isText("ink " + NOTS + "(1)=1;", 3, 36);
    isText("ink " + open + "-1", 3, 12);
    isText("ink " + less + "(1", 3, 12);
    isText("ink " + NOTS + "1=-1;", 3, 38);
    isText("ink " + NOTS + "1=(1);", 3, 38);
    isSound("ink " + NOTS.substring(4) + "1=(1);");
    isText("ink " + NOTS.substring(4) + "1=((1));", 3, 35);
    isText("ink " + NOTS.substring(4) + "1=(-1);", 3, 35);
    isSound("ink not -(-(-(-1)))=1;");
    isText("ink not -(-(-(-(1))))=1;", 3, 15);
    // What has ended is open no longer: a bracket behind its other half, - behind its ONE, not behind its ASK.
    isSound("ink " + open + "1" + shut + "=" + open + "1" + shut + ";");
    isSound("ink " + open + "1" + shut + "+" + open + "1" + shut + "=1;");
    isSound("ink " + less + "1=" + less + "1;");
    isSound("ink " + less + "1*" + less + "1=1;");
    isSound("ink -------(1)*" + open + "1" + shut + "=1;");
    isSound("ink (" + less.substring(1) + "1+" + less.substring(1) + "1)=1;");
    isText("ink (" + less.substring(1) + "1+" + less + "1)=1;", 3, 21);
    isSound("ink " + NOTS + "1=1 and " + NOTS + "1=1;");
    isSound("ink " + NOTS + "1=1 or " + NOTS + "1=1;");
    isSound("ink " + NOTS + "1=1;ink " + NOTS + "1=1;");
    isText("ink " + NOTS + "1=1 and " + NOTS + "not 1=1;", 3, 76);
    isText("ink 1=1 and 1=1 or 1=1 or " + NOTS + "not 1=1;", 3, 58);
    isText("ink 1+1*1=1 and " + less + "-1=1;", 3, 24);
    // - between two PRODUCTS opens nothing.
    isSound("ink " + NOTS + "1-1=1;");
    isSound("ink " + open + "1-1-1" + shut + "=1;");
    isSound("ink 1" + "-1".repeat(20) + "=1;");
    isSound("ink " + less + "1-" + less + "1=1;");
    isText("ink " + less + "1--" + less + "1=1;", 3, 22);
  }

  private static void faultFour() {
    DOC.says("Terms II", "4 the 11th CLAUSE (at its first TOKEN)");
    isSound(TEN);
    isSound(TEN + " \n");
    isText(TEN + "ink", 4, 80);
    isText(TEN + "bare", 4, 80);
    isText(TEN + "  \nink 1=1;", 4, 83);
    isText("ink 1=1;\n".repeat(10) + "bare 1=1;", 4, 90);
    isText(TEN.substring(8) + "ink", 1, 75);
    isText(TEN + "inks", 1, 80);
  }

  private static CharredRoll sixtyBits() {
    CharredRoll x = Rolls.some();
    // The four that it has are among them.
    for (int i = 0; i < 60; i++) {
      x.bit(i / 12, i % 12, i % 2 == 0, i % 4);
    }
    return x;
  }

  private static void sixtyBitsAtMost() {
    DOC.says("Terms II", "BITS (60 at most)");
    CharredRoll x = new CharredRoll(6, 12);
    for (int i = 0; i < 60; i++) {
      DOC.is("bit " + i, x.bit(i % 6, 23 - i / 6, true, i % 4), i + 1);
    }
    for (int slice = 0; slice < 6; slice++) {
      DOC.is("the 61st", x.bit(slice, 0, true, 0), -1);
    }
    DOC.is("sixty", x.about(5), 60);
    for (int slice = 0; slice < 6; slice++) {
      x.wound(slice, 4);
    }
    Rolls.read(x, "ink 1=1;");
    DOC.is("sixty are asked for", x.right(0, false, 1), 60);
    DOC.is("sixty are right", x.right(0, false, 0), 60);
  }

  private static void latestOfBoth() {
    DOC.says("Terms II", "the latest told of both counts (where there is one already, that is told anew)");
    CharredRoll x = new CharredRoll(3, 4);
    Rolls.read(x, "ink 1=1;");
    x.learnt(0, 2);
    DOC.is("a bit", x.bit(0, 0, true, 1), 1);
    DOC.is("of a group it learnt from", x.right(0, true, 0), 1);
    DOC.is("told anew", x.bit(0, 0, false, 1), 1);
    DOC.is("no ink now", x.right(0, true, 0), 0);
    DOC.is("one bit", x.right(0, true, 1), 1);
    DOC.is("told anew", x.bit(0, 0, true, 3), 1);
    DOC.is("of another group now", x.right(0, true, 1), 0);
    DOC.is("of another group now", x.right(0, false, 0), 1);
    DOC.is("the same again", x.bit(0, 0, true, 3), 1);
    DOC.is("one bit", x.right(0, false, 1), 1);
    DOC.is("another place", x.bit(0, 1, true, 3), 2);
    DOC.is("another slice", x.bit(1, 0, true, 3), 3);
  }

  private static void learntFromASet() {
    DOC.says("Terms II", "LEARNT: a READER learnt from GROUPS (a set)");
    CharredRoll x = new CharredRoll(3, 4);
    Rolls.read(x, "ink 1=1;");
    for (int group = 0; group < 4; group++) {
      for (int i = 0; i <= group; i++) {
        x.bit(group, i, true, group);
      }
    }
    for (int set = 0; set < 16; set++) {
      DOC.yes("learnt", x.learnt(0, set));
      int own = (set & 1) + (set >> 1 & 1) * 2 + (set >> 2 & 1) * 3 + (set >> 3) * 4;
      DOC.is("bits of the set " + set, x.right(0, true, 1), own);
      DOC.is("bits of others than the set " + set, x.right(0, false, 1), 10 - own);
    }
    DOC.no("below", x.learnt(0, -1));
    DOC.no("above", x.learnt(0, 16));
    DOC.is("as it was", x.right(0, true, 1), 10);
  }

  private static void rightOfPlacesThatAre() {
    DOC.says("Terms II", "RIGHT of a READER: BITS (of PLACES that there are) that its INK tells");
    for (int k = 1; k <= 4; k++) {
      CharredRoll x = new CharredRoll(4, 5);
      Rolls.read(x, "ink 1=1;");
      x.wound(5, k);
      x.bit(5, 4 * k - 1, true, 0);
      DOC.is("the last place", x.right(0, false, 1), 1);
      DOC.is("the last place", x.right(0, false, 0), 1);
      if (k < 4) {
        x.bit(5, 4 * k, true, 0);
        DOC.is("the first that isn't there", x.right(0, false, 1), 1);
        DOC.is("the first that isn't there", x.right(0, false, 0), 1);
        x.wound(5, k + 1);
        DOC.is("it is there now", x.right(0, false, 1), 2);
      }
      x.bit(5, 0, false, 0);
      DOC.is("the first place", x.right(0, false, 1), k < 4 ? 3 : 2);
      DOC.is("which isn't right", x.right(0, false, 0), k < 4 ? 2 : 1);
    }
    CharredRoll y = new CharredRoll(3, 4);
    Rolls.read(y, "ink 1=2;");
    y.bit(0, 0, false, 0);
    DOC.is("ink tells that there is none", y.right(0, false, 0), 1);
    Rolls.tear(y, 0);
    DOC.is("without a spiral no ink tells it", y.right(0, false, 0), 0);
    y.bit(0, 0, true, 0);
    DOC.is("nor that there is some", y.right(0, false, 0), 0);
    DOC.is("the place is there", y.right(0, false, 1), 1);
  }

  private static CharredRoll withTape(String text) {
    CharredRoll x = Rolls.some();
    Rolls.tape(x, text);
    return x;
  }

  private static void feed() {
    DOC.says("Promise 12", "Twenty bytes come behind the tape, the highest of a first: how many it has");
    CharredRoll x = new CharredRoll(3, 4);
    // "ink 1=1 and 22=22 or", " 333=333;" and blanks.
    DOC.is("feed", x.feed(0x696e6b20, 0x313d3120, 0x616e6420, 0x32323d32, 0x32206f72), 20);
    DOC.is("feed", x.feed(0x20333333, 0x3d333333, 0x3b202020, 0x0a0a0a0a, 0x20202020), 40);
    DOC.is("it is read so", x.reader(), 0);
    DOC.is("no fault", x.fault(0), 0);
    for (int at = 0; at < 20; at++) {
      int[] f = {0x20202020, 0x20202020, 0x20202020, 0x20202020, 0x20202020};
      f[at / 4] ^= 0xa0 << (24 - at % 4 * 8);
      CharredRoll y = new CharredRoll(3, 4);
      DOC.is("feed", y.feed(f[0], f[1], f[2], f[3], f[4]), 20);
      DOC.is("a byte of 128 at " + at, y.reader(), -1);
      DOC.is("a byte of 128 at " + at, y.fault(1), at);
    }
    DOC.says("Promise 12", "NONE, and none come, if there would be more than 300");
    CharredRoll z = new CharredRoll(3, 4);
    for (int n = 20; n <= 300; n += 20) {
      DOC.is("feed", z.feed(MIN, MAX, -1, 0, n), n);
    }
    DOC.is("full", z.feed(0, 0, 0, 0, 0), -1);
    DOC.is("full", z.about(9), 300);
    for (int n : new int[] {281, 282, 299, 300}) {
      Supplier<CharredRoll> made = () -> withTape(" ".repeat(n - 13) + "ink radius=1;");
      DOC.is("so many bytes", made.get().about(9), n);
      DOC.refuses("feed at " + n, made, (y, a) -> y.feed(a[0], a[0], a[0], a[0], a[0]), -1, 0x21212121);
    }
    CharredRoll y = withTape(" ".repeat(267) + "ink radius=1;");
    DOC.is("at 280", y.feed(0x20202020, 0x20202020, 0x20202020, 0x20202020, 0x20202021), 300);
    DOC.is("all came", y.reader() == -1 ? y.fault(1) : 0, 299);
  }

  private static void end() {
    DOC.says("Promise 13", "The tape has its first n bytes alone: n");
    for (int n = 0; n <= 20; n += 5) {
      CharredRoll x = new CharredRoll(3, 4);
      x.feed(0x20202020, 0x20202020, 0x20202020, 0x20202020, 0x20202020);
      DOC.is("end", x.end(n), n);
      DOC.is("so many", x.about(9), n);
      DOC.is("behind them", x.feed(0x21202020, 0, 0, 0, 0), n + 20);
      DOC.is("a text", x.reader(), -1);
      DOC.is("with the next byte behind", x.fault(1), n);
    }
    CharredRoll empty = new CharredRoll(3, 4);
    DOC.is("an empty tape", empty.end(0), 0);
    CharredRoll full = withTape(" ".repeat(300));
    DOC.is("a full tape", full.end(300), 300);
    DOC.is("of a full tape", full.end(299), 299);
    DOC.says("Promise 13", "NONE, and nothing is done, if it has not so many, or n is below 0");
    for (int n : new int[] {14, 20, 300, 301, -1, MIN, MAX}) {
      DOC.refuses("end", Rolls::some, (x, a) -> x.end(a[0]), -1, n);
    }
    for (int n : new int[] {301, -1}) {
      DOC.refuses("end", () -> withTape(" ".repeat(300)), (x, a) -> x.end(a[0]), -1, n);
    }
    DOC.is("of an empty tape", empty.end(1), -1);
    DOC.is("of an empty tape", empty.end(-1), -1);
    CharredRoll cut = withTape("ink 1=1;");
    cut.end(3);
    DOC.is("what is cut is gone", cut.end(8), -1);
    DOC.is("what is cut is gone", cut.end(4), -1);
  }

  private static CharredRoll fourReaders() {
    CharredRoll x = Rolls.some();
    Rolls.read(x, "ink 1=1;");
    Rolls.read(x, "");
    Rolls.tape(x, "ink 10000=1;");
    return x;
  }

  private static void reader() {
    DOC.says("Promise 14", "The tape (empty then) is a READER (that learnt nothing): its number");
    CharredRoll x = new CharredRoll(3, 4);
    DOC.is("an empty tape", x.reader(), 0);
    DOC.is("it sees no ink", x.ink(0, 0, 0), 0);
    x.learnt(0, 15);
    Rolls.tape(x, "ink 1=1;");
    DOC.is("the next", x.reader(), 1);
    DOC.is("the tape is empty", x.about(9), 0);
    DOC.is("it learnt nothing", x.about(21), 0);
    DOC.is("the empty tape is another", x.reader(), 2);
    DOC.is("the other learnt as it was told", x.about(20), 15);
    x.learnt(1, 7);
    x.back();
    x.reader();
    DOC.is("nor where another was before", x.about(20), 0);
    x.reader();
    DOC.is("nor where another was before", x.about(21), 0);
    DOC.is("of which nothing is left", x.ink(1, 0, 0), 0);
    DOC.says("Promise 14", "NONE: it has a FAULT");
    for (String text : new String[] {"ink 1=1;!", "ink 1=1;ink 1=1", "ink 10000=1;", TEN + "ink 1=1;", "x"}) {
      CharredRoll y = withTape(text);
      DOC.is("a fault in " + text, y.reader(), -1);
      DOC.is("the tape is empty then", y.about(9), 0);
      DOC.yes("nothing else is changed", Arrays.equals(Rolls.held(y), Rolls.held(Rolls.some())));
      DOC.is("the next", Rolls.read(y, "ink 1=1;"), 2);
      DOC.is("the next sees its own ink", y.ink(2, 0, 0), 1);
    }
    DOC.says("Promise 14", "or (the tape stays) there are 4");
    DOC.is("four", fourReaders().about(2), 4);
    DOC.refuses("reader", EdgesOfReadersTest::fourReaders, (y, a) -> y.reader(), -1);
    CharredRoll y = fourReaders();
    for (int i = 0; i < 3; i++) {
      DOC.is("there are 4", y.reader(), -1);
      DOC.is("the tape stays", y.about(9), 12);
      DOC.is("the text isn't read", y.fault(0), 0);
    }
    y.back();
    DOC.is("with fewer it is", y.reader(), -1);
    DOC.is("and has its fault", y.fault(0), 2);
    DOC.is("and is gone", y.about(9), 0);
    CharredRoll sound = fourReaders();
    Rolls.tape(sound, "ink 1=1;");
    DOC.is("a sound text too", sound.reader(), -1);
    sound.back();
    DOC.is("with fewer it is one", sound.reader(), 1);
  }

  private static void fault() {
    DOC.says("Promise 15", "0 its FAULT (0 without), 1 its place (NONE without)");
    CharredRoll x = new CharredRoll(3, 4);
    Rolls.read(x, "ink 10000=1;");
    DOC.is("a fault", x.fault(0), 2);
    DOC.is("its place", x.fault(1), 4);
    Rolls.read(x, "ink 1=1;");
    DOC.is("without", x.fault(0), 0);
    DOC.is("without", x.fault(1), -1);
    Rolls.read(x, "?");
    DOC.is("a fault at the first byte", x.fault(0), 1);
    DOC.is("a fault at the first byte", x.fault(1), 0);
    Rolls.read(x, "");
    DOC.is("an empty text", x.fault(0), 0);
    DOC.is("an empty text", x.fault(1), -1);
    DOC.says("Promise 15", "Of the latest text that was read");
    Rolls.read(x, "ink 1=1");
    Rolls.tape(x, "ink 10000=1;");
    DOC.is("the tape isn't read yet", x.fault(1), 7);
    x.end(0);
    DOC.is("nor is it now", x.fault(1), 7);
    x.image();
    x.back();
    DOC.is("an image leaves it", x.fault(1), 7);
    String[] texts = {"ink ((((((((", "ink not not (1", "ink 1=1;ink 1=1", "ink 1=", TEN + "ink", "ink 1", "ink (1=", "ink -",
        "ink 10000"};
    for (String text : texts) {
      CharredRoll z = new CharredRoll(3, 4);
      Rolls.read(z, text);
      DOC.is("nothing of a text is left for an empty one", Rolls.read(z, ""), 0);
      z.back();
      Rolls.read(z, text);
      DOC.is("nothing of a text is left for the next", Rolls.read(z, TEN), 0);
      DOC.is("a sound text behind " + text, z.fault(0), 0);
      DOC.is("nothing is left for the next", Rolls.read(z, "ink --------(1)=1;"), -1);
      DOC.is("a fault behind a sound text", z.fault(0), 3);
      DOC.is("a fault behind a sound text", z.fault(1), 12);
      DOC.is("a sound text again", Rolls.read(z, "ink ((((((((1))))))))=1;"), 1);
      DOC.is("which sees", z.ink(1, 0, 0), 1);
    }
    DOC.says("Promise 15", "NONE for others, and ahead of any");
    for (int what : new int[] {-1, 2, MIN, MAX}) {
      DOC.is("what " + what, x.fault(what), -1);
    }
    CharredRoll y = new CharredRoll(3, 4);
    Rolls.tape(y, "ink 10000=1;");
    y.image();
    y.back();
    for (int what = -1; what <= 2; what++) {
      DOC.is("ahead of any", y.fault(what), -1);
    }
  }

  private static void ink() {
    DOC.says("Promise 16", "INK (1, 0). NONE for others, PLACES that aren't there");
    DOC.limits("ink", Rolls::some, (x, a) -> x.ink(a[0], a[1], a[2]), -1, new int[] {0, 1, 1},
        new int[][] {{0, 1}, {0, 5}, {0, 8}});
    for (int a = 3; a <= 6; a++) {
      for (int k = 1; k <= 4; k++) {
        CharredRoll x = new CharredRoll(a, 4);
        x.reader();
        x.wound(5, k);
        DOC.is("the first place", x.ink(0, 5, 0), 0);
        DOC.is("the last place", x.ink(0, 5, k * a - 1), 0);
        DOC.is("one behind", x.ink(0, 5, k * a), -1);
        DOC.is("one ahead", x.ink(0, 5, -1), -1);
      }
    }
    DOC.is("no readers", new CharredRoll(3, 4).ink(0, 0, 0), -1);
    DOC.says("Promise 16", "and without SPIRALS");
    CharredRoll x = new CharredRoll(3, 4);
    Rolls.read(x, "ink 1=1;");
    Rolls.tear(x, 3);
    for (int place = 0; place < 6; place++) {
      DOC.is("without", x.ink(0, 3, place), -1);
      DOC.is("beside", x.ink(0, 2, place), 1);
      DOC.is("beside", x.ink(0, 4, place), 1);
    }
  }

  private static void bit() {
    DOC.says("Promise 17", "A BIT: how many there are. NONE for others (PLACE 0 .. 4 A - 1)");
    for (boolean ink : new boolean[] {true, false}) {
      DOC.limits("bit", Rolls::some, (x, a) -> x.bit(a[0], a[1], ink, a[2]), -1, new int[] {1, 1, 1},
          new int[][] {{0, 5}, {0, 11}, {0, 3}});
      DOC.limits("bit", () -> new CharredRoll(6, 12), (x, a) -> x.bit(a[0], a[1], ink, a[2]), -1, new int[] {1, 1, 1},
          new int[][] {{0, 5}, {0, 23}, {0, 3}});
    }
    for (int a = 3; a <= 6; a++) {
      CharredRoll x = new CharredRoll(a, 12);
      x.wound(0, 1);
      DOC.is("the last place of four turns, whatever its turns", x.bit(0, 4 * a - 1, true, 0), 1);
      DOC.is("one behind", x.bit(0, 4 * a, true, 0), -1);
    }
    DOC.says("Promise 17", "or (of a new one) if there are 60");
    DOC.is("sixty", sixtyBits().about(5), 60);
    DOC.refuses("bit", EdgesOfReadersTest::sixtyBits, (x, a) -> x.bit(a[0], a[1], true, a[2]), -1, 5, 0, 0);
    DOC.refuses("bit", EdgesOfReadersTest::sixtyBits, (x, a) -> x.bit(a[0], a[1], false, a[2]), -1, 5, 11, 3);
    CharredRoll x = sixtyBits();
    Rolls.read(x, "ink 1=1;");
    int right = x.right(2, false, 0);
    DOC.is("one that is there is told anew", x.bit(0, 0, false, 3), 60);
    DOC.is("and it counts as told", x.right(2, false, 0), right - 1);
    DOC.is("still sixty", x.about(5), 60);
    x.back();
    DOC.is("with fewer there is room", x.bit(5, 0, true, 0), 3);
  }

  private static void learnt() {
    DOC.says("Promise 18", "LEARNT (groups: bits): true. False for others");
    DOC.limits("learnt", Rolls::some, (x, a) -> Edges.num(x.learnt(a[0], a[1])), 0, new int[] {0, 7},
        new int[][] {{0, 1}, {0, 15}});
    DOC.limits("learnt", EdgesOfReadersTest::fourReaders, (x, a) -> Edges.num(x.learnt(a[0], a[1])), 0, new int[] {0, 7},
        new int[][] {{0, 3}, {0, 15}});
    DOC.no("no readers", new CharredRoll(3, 4).learnt(0, 0));
  }

  private static void right() {
    DOC.says("Promise 19", "how many (what 0), of how many (1). NONE for others");
    for (boolean own : new boolean[] {true, false}) {
      DOC.limits("right", Rolls::some, (x, a) -> x.right(a[0], own, a[1]), -1, new int[] {0, 0},
          new int[][] {{0, 1}, {0, 1}});
      DOC.limits("right", EdgesOfReadersTest::fourReaders, (x, a) -> x.right(a[0], own, a[1]), -1, new int[] {0, 0},
          new int[][] {{0, 3}, {0, 1}});
      CharredRoll x = new CharredRoll(3, 4);
      DOC.is("no readers", x.right(0, own, 0), -1);
      x.reader();
      DOC.is("no bits", x.right(0, own, 0), 0);
      DOC.is("no bits", x.right(0, own, 1), 0);
    }
  }
}
