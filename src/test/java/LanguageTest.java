import java.io.IOException;
import java.lang.management.ManagementFactory;
import java.lang.reflect.Constructor;
import java.lang.reflect.Field;
import java.lang.reflect.Method;
import java.lang.reflect.Modifier;
import java.nio.file.Files;
import java.nio.file.Path;
import java.util.Arrays;
import java.util.List;
import java.util.Set;
import java.util.TreeSet;
import java.util.regex.Matcher;
import java.util.regex.Pattern;

/** What can be seen from outside of the rules in ../shared/LANGUAGE.md, and the room that calls take. */
public final class LanguageTest {
  private static final Path SOURCE = Path.of("src/main/java/CharredRoll.java");

  private static final String FACE = """
      boolean grey(int,int,int,int,int)
      boolean column(int,int,long)
      boolean wound(int,int)
      int pin(int,int,int)
      int best(int,int)
      int step(int)
      int unwalk()
      boolean jump(int)
      int walked(int,int,int)
      int flat(int,int,int)
      int feed(int,int,int,int,int)
      int end(int)
      int reader()
      int fault(int)
      int ink(int,int,int)
      int bit(int,int,boolean,int)
      boolean learnt(int,int)
      int right(int,boolean,int)
      int letter(int,int)
      int word(int,int,int,int)
      boolean chances(int,int)
      int box(int,int,int,int)
      int joined(int,int,int,int)
      int seen(int,int)
      int printed(int,int,int,int,int)
      int length(int,int,int,int,boolean)
      int part(int,int,int)
      boolean fetch(int,int)
      int plan(int,int)
      int image()
      int back()
      int about(int)
      """;

  private static int wrong = 0;

  public static void main(String[] args) throws IOException {
    String raw = Files.readString(SOURCE);
    String code = withoutTexts(raw);
    words(raw, code);
    members();
    methods(code);
    room();
    System.out.println(wrong == 0 ? "the rules are kept" : wrong + " rules are broken");
    if (wrong != 0) {
      System.exit(1);
    }
  }

  private static void check(int rule, String what, boolean kept) {
    if (!kept) {
      wrong++;
      System.out.println("rule " + rule + ": " + what);
    }
  }

  /** Comments away, texts and signs emptied. */
  private static String withoutTexts(String code) {
    String bare = Pattern.compile("/\\*.*?\\*/", Pattern.DOTALL).matcher(code).replaceAll("");
    return bare.replaceAll("//[^\n]*", "").replaceAll("\"[^\"\n]*\"", "\"\"").replaceAll("'[^'\n]*'", "' '");
  }

  private static void words(String raw, String code) {
    check(4, "a sign beyond 127", raw.chars().allMatch(c -> c < 128));
    check(1, "a package line", !Pattern.compile("^package", Pattern.MULTILINE).matcher(code).find());
    Matcher imports = Pattern.compile("import ([^;]*);").matcher(code);
    while (imports.find()) {
      check(4, "import " + imports.group(1), List.of("java.util.Arrays", "java.util.List", "java.util.ArrayList",
          "java.util.Iterator").contains(imports.group(1)));
    }
    for (String word : List.of("throw", "throws", "try", "catch", "finally", "synchronized", "assert", "volatile",
        "native", "var", "Object", "System\\.out", "Random", "Thread", "hashCode", "toString", "equals")) {
      check(6, "the word " + word, !Pattern.compile("\\b" + word + "\\b").matcher(code).find());
    }
    check(2, "a lambda or a method reference", !code.contains("->") && !code.contains("::"));
    check(10, "texts joined by +", !code.contains("\" +") && !code.contains("+ \"") && !code.contains("\"+"));
    check(3, "doubles or floats", !Pattern.compile("\\b(double|float|Double|Float)\\b").matcher(code).find());
    check(12, "an object made outside a constructor or a field", noNewInMethods(code));
  }

  /** Constructors alone make objects: the class says so, and the room depends on it. */
  private static boolean noNewInMethods(String code) {
    for (Matcher m = METHOD.matcher(code); m.find(); ) {
      boolean constructor = m.group(1).isBlank();
      if (!constructor && Pattern.compile("\\bnew\\b").matcher(body(code, m.end() - 1)).find()) {
        return false;
      }
    }
    return true;
  }

  private static final Pattern METHOD =
      Pattern.compile("\\n +(?:public |private |static |final )*([\\w\\[\\]]* ?)\\b(\\w+)\\(([^()]*)\\) \\{");

  private static String body(String code, int open) {
    int depth = 0;
    for (int i = open; i < code.length(); i++) {
      depth += code.charAt(i) == '{' ? 1 : code.charAt(i) == '}' ? -1 : 0;
      if (depth == 0) {
        return code.substring(open, i + 1);
      }
    }
    return code.substring(open);
  }

  private static void methods(String code) {
    int seen = 0;
    for (Matcher m = METHOD.matcher(code); m.find(); ) {
      if (List.of("if", "for", "while", "switch").contains(m.group(2))) {
        continue;
      }
      seen++;
      long lines = body(code, m.end() - 1).lines().count();
      check(11, m.group(2) + " has " + lines + " lines", lines <= 60);
      check(11, m.group(2) + " has too many parameters", m.group(3).split(",").length <= 7);
    }
    check(11, "methods were found", seen > 100);
  }

  private static String signature(Method m) {
    StringBuilder text = new StringBuilder(m.getReturnType() + " " + m.getName() + "(");
    for (Class<?> p : m.getParameterTypes()) {
      text.append(text.charAt(text.length() - 1) == '(' ? "" : ",").append(p);
    }
    return text.append(")").toString();
  }

  private static void members() {
    Class<?> c = CharredRoll.class;
    check(1, "public and final", Modifier.isPublic(c.getModifiers()) && Modifier.isFinal(c.getModifiers()));
    Set<String> due = new TreeSet<>(Arrays.asList(FACE.split("\n")));
    Set<String> names = new TreeSet<>();
    due.forEach(s -> names.add(s.replaceAll(".* |\\(.*", "")));
    Set<String> got = new TreeSet<>();
    for (Method m : c.getDeclaredMethods()) {
      if (!Modifier.isPrivate(m.getModifiers())) {
        check(1, m.getName() + " is public and no more", m.getModifiers() == Modifier.PUBLIC);
        got.add(signature(m));
      }
    }
    check(1, "the face is " + got, got.equals(due));
    Constructor<?>[] made = c.getDeclaredConstructors();
    check(1, "one constructor", made.length == 1 && Modifier.isPublic(made[0].getModifiers())
        && Arrays.equals(made[0].getParameterTypes(), new Class<?>[] {int.class, int.class}));
    for (Field f : c.getDeclaredFields()) {
      check(1, f.getName() + " isn't private", Modifier.isPrivate(f.getModifiers()) != f.getName().equals("NONE"));
    }
    check(11, "too many classes", c.getDeclaredClasses().length <= 12);
    inside(c, names);
    for (Class<?> in : c.getDeclaredClasses()) {
      check(1, in + " is private and static",
          Modifier.isPrivate(in.getModifiers()) && Modifier.isStatic(in.getModifiers()));
      inside(in, names);
    }
  }

  private static void inside(Class<?> c, Set<String> names) {
    int fields = 0;
    for (Field f : c.getDeclaredFields()) {
      boolean constant = Modifier.isStatic(f.getModifiers());
      check(5, f + " is static and not final", !constant || Modifier.isFinal(f.getModifiers()));
      fields += constant ? 0 : 1;
    }
    check(11, c + " has " + fields + " fields", fields <= 20);
    for (Method m : c.getDeclaredMethods()) {
      boolean ofFace = c == CharredRoll.class && Modifier.isPublic(m.getModifiers());
      check(1, m + " bears the name of a public one", ofFace || !names.contains(m.getName()));
    }
  }

  /** Calls make no objects, and the dearest constructor keeps to a hundredth of the room. */
  private static void room() {
    com.sun.management.ThreadMXBean bean =
        (com.sun.management.ThreadMXBean) ManagementFactory.getThreadMXBean();
    long id = Thread.currentThread().getId();
    CharredRoll x = new CharredRoll(6, 12);
    everything(x);
    long before = bean.getThreadAllocatedBytes(id);
    CharredRoll y = new CharredRoll(6, 12);
    long made = bean.getThreadAllocatedBytes(id) - before;
    check(12, "an object takes " + made + " bytes", made < 73000 * 4);
    before = bean.getThreadAllocatedBytes(id);
    everything(y);
    long calls = bean.getThreadAllocatedBytes(id) - before;
    // The measuring itself takes some.
    check(12, "calls take " + calls + " bytes", calls < 2000);
  }

  private static void everything(CharredRoll x) {
    for (int slice = 0; slice < 6; slice++) {
      x.wound(slice, 4);
      x.grey(slice, 0, 3, 4, 5);
      x.column(slice, 1, 123456789012L);
    }
    x.pin(0, 0, 3);
    x.best(0, 1);
    x.step(3);
    x.step(4);
    x.jump(2);
    x.walked(0, 3, 0);
    x.flat(4, 5, 2);
    // "ink crack>0;"
    x.feed(0x696e6b20, 0x63726163, 0x6b3e303b, 0, 0);
    x.end(12);
    x.reader();
    x.feed(0x696e6b20, 0x63726163, 0x6b3e303b, 0, 0);
    x.reader();
    x.fault(0);
    x.ink(0, 0, 0);
    x.bit(0, 0, true, 0);
    x.learnt(0, 1);
    x.right(0, true, 0);
    x.letter(3, 3);
    x.word(0, 0, 0, 3);
    x.chances(3, 2);
    x.box(0, 0, 0, 1);
    x.joined(0, 0, 0, 1);
    x.seen(3, 5);
    x.printed(1, 0, 0, 0, 1);
    x.length(9999, 1, 2, 3, true);
    x.part(3, 4, 1);
    x.fetch(1, 1);
    x.plan(400, 0);
    x.image();
    x.back();
    x.unwalk();
    x.about(5);
  }
}
