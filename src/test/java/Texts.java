import java.util.ArrayList;
import java.util.List;
import java.util.SplittableRandom;

/** Texts of READERS by dice: some by the grammar, some with a thing or two put wrong. */
final class Texts {
  private static final String[] NAMES = {"grey", "crack", "radius", "turn", "angle", "slice", "in", "out", "sharp"};
  private static final String[] RELATIONS = {"<", "<=", ">", ">=", "=", "#"};
  private static final String[] ODD = {"ink", "bare", "or", "and", "not", "(", ")", "-", "+", "*", "/", ";", "<", "=",
    "#", ">=", "12345", "99999999999999999999", "0010000", "!", "Ink", "greyin", "\t", "9999", "10000", "\u00e9", "&"};

  private final SplittableRandom dice;
  private final List<String> tokens = new ArrayList<>();

  Texts(SplittableRandom dice) {
    this.dice = dice;
  }

  String any() {
    int clauses = dice.nextInt(12) == 0 ? dice.nextInt(9, 13) : dice.nextInt(0, 4);
    for (int i = 0; i < clauses; i++) {
      tokens.add(dice.nextInt(4) == 0 ? "bare" : "ink");
      either(clauses > 4 ? 0 : 2);
      tokens.add(";");
    }
    if (dice.nextInt(5) < 2) {
      spoil();
    }
    return joined();
  }

  private void spoil() {
    int times = dice.nextInt(1, 3);
    for (int i = 0; i < times && !tokens.isEmpty(); i++) {
      int at = dice.nextInt(tokens.size());
      String odd = ODD[dice.nextInt(ODD.length)];
      int pick = dice.nextInt(4);
      if (pick == 0) {
        tokens.remove(at);
      } else if (pick == 1) {
        tokens.add(at, odd);
      } else if (pick == 2) {
        tokens.set(at, odd);
      } else {
        String open = new String[] {"(", "-", "not"}[dice.nextInt(3)];
        for (int j = dice.nextInt(1, 10); j > 0; j--) {
          tokens.add(at, dice.nextInt(4) == 0 ? "-" : open);
        }
      }
    }
  }

  /** Blanks where two tokens would become one, and sometimes elsewhere. */
  private String joined() {
    StringBuilder text = new StringBuilder();
    for (String token : tokens) {
      String blank = dice.nextInt(6) == 0 ? "\n" : " ";
      boolean apart = text.length() > 0 && isWord(text.charAt(text.length() - 1)) && isWord(token.charAt(0));
      if (apart ? dice.nextInt(50) != 0 : dice.nextInt(8) == 0) {
        text.append(blank);
      }
      text.append(token);
    }
    if (dice.nextInt(5) == 0) {
      text.append(" \n");
    }
    return text.length() > 300 ? text.substring(0, 300) : text.toString();
  }

  private static boolean isWord(char c) {
    return Character.isLetterOrDigit(c);
  }

  private void either(int deep) {
    both(deep);
    while (dice.nextInt(4) == 0) {
      tokens.add("or");
      both(deep);
    }
  }

  private void both(int deep) {
    question(deep);
    while (dice.nextInt(4) == 0) {
      tokens.add("and");
      question(deep);
    }
  }

  private void question(int deep) {
    while (dice.nextInt(5) == 0) {
      tokens.add("not");
    }
    sum(deep);
    tokens.add(RELATIONS[dice.nextInt(RELATIONS.length)]);
    sum(deep);
  }

  private void sum(int deep) {
    product(deep);
    while (dice.nextInt(4) == 0) {
      tokens.add(dice.nextBoolean() ? "+" : "-");
      product(deep);
    }
  }

  private void product(int deep) {
    one(deep);
    while (dice.nextInt(4) == 0) {
      tokens.add(dice.nextBoolean() ? "*" : "/");
      one(deep);
    }
  }

  private void one(int deep) {
    int pick = dice.nextInt(10);
    if (pick < 5) {
      tokens.add(NAMES[dice.nextInt(NAMES.length)]);
    } else if (pick < 8 || deep == 0) {
      tokens.add("" + (dice.nextInt(6) == 0 ? dice.nextInt(10000) : dice.nextInt(10)));
    } else if (pick == 8) {
      tokens.add("(");
      sum(deep - 1);
      tokens.add(")");
    } else {
      tokens.add("-");
      one(deep - 1);
    }
  }
}
