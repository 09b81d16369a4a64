import java.io.IOException;
import java.io.UncheckedIOException;
import java.lang.reflect.Method;
import java.lang.reflect.Modifier;
import java.nio.file.Files;
import java.nio.file.Path;
import java.util.ArrayList;
import java.util.List;
import java.util.Set;
import java.util.TreeSet;
import java.util.regex.Matcher;
import java.util.regex.Pattern;
import java.util.stream.Collectors;
import java.util.stream.Stream;

/**
 * What README.md shows is true: each of its java blocks is compiled as a method of its own and run, and a call with
 * "// = answer" behind it must answer that. It shows every method of the face, and lists every test that there is.
 */
public final class ReadmeTest {
  private static final Pattern BLOCK = Pattern.compile("```java\n(.*?)```", Pattern.DOTALL);
  /** Code, and behind it the answer that the page tells. */
  private static final Pattern ANSWERED = Pattern.compile("\\s*(\\S.*?);\\s*// = (-?\\d+|true|false)\\b.*");

  private static int wrong = 0;

  public static void main(String[] args) throws IOException, InterruptedException {
    String page = Files.readString(Path.of("README.md"));
    List<String> blocks = new ArrayList<>();
    for (Matcher m = BLOCK.matcher(page); m.find(); ) {
      blocks.add(m.group(1));
    }
    everyCallIsShown(String.join("\n", blocks));
    everyTestIsListed(page);
    Path folder = Files.createTempDirectory("readme");
    try {
      callsAreTrue(folder, blocks);
    } finally {
      remove(folder);
    }
    System.out.println(wrong == 0 ? "the page is true" : wrong + " faults of the page");
    if (wrong != 0) {
      System.exit(1);
    }
  }

  private static void check(String what, boolean so) {
    if (!so) {
      wrong++;
      System.out.println("README.md: " + what);
    }
  }

  private static void everyCallIsShown(String code) {
    for (Method m : CharredRoll.class.getDeclaredMethods()) {
      if (Modifier.isPublic(m.getModifiers())) {
        check("no use of " + m.getName(), code.contains("x." + m.getName() + "("));
      }
    }
  }

  private static void everyTestIsListed(String page) throws IOException {
    Set<String> listed = new TreeSet<>();
    for (Matcher m = Pattern.compile("^\\| `(\\w+)` \\|", Pattern.MULTILINE).matcher(page); m.find(); ) {
      listed.add(m.group(1));
    }
    try (Stream<Path> files = Files.list(Path.of("src/test/java"))) {
      Set<String> there = files.map(p -> p.getFileName().toString()).filter(n -> n.endsWith("Test.java"))
          .map(n -> n.replace(".java", "")).collect(Collectors.toCollection(TreeSet::new));
      check("it lists " + listed + ", there are " + there, listed.equals(there));
    }
    check("it doesn't say how the tests are run", page.contains("bash .ci/run") && Files.exists(Path.of(".ci/run")));
  }

  private static void callsAreTrue(Path folder, List<String> blocks) throws IOException, InterruptedException {
    List<String> lines = new ArrayList<>();
    lines.add("public final class Shown {");
    lines.add("  static int wrong = 0;");
    lines.add("  static void due(String call, Object got, Object want) {");
    lines.add("    if (!got.equals(want)) { wrong++; System.out.println(call + \" is \" + got + \", not \" + want); }");
    lines.add("  }");
    int answers = 0;
    for (int i = 0; i < blocks.size(); i++) {
      lines.add("  static void block" + i + "() {");
      for (String line : blocks.get(i).split("\n")) {
        Matcher m = ANSWERED.matcher(line);
        // A line that has the mark but can't be taken apart would else be shown without being tried.
        check("can't be tried: " + line, m.matches() || !line.contains("// ="));
        answers += m.matches() ? 1 : 0;
        lines.add(m.matches() ? "    due(\"" + m.group(1) + "\", " + m.group(1) + ", " + m.group(2) + ");" : line);
      }
      lines.add("  }");
    }
    lines.add("  public static void main(String[] args) {");
    for (int i = 0; i < blocks.size(); i++) {
      lines.add("    block" + i + "();");
    }
    lines.add("    System.exit(wrong == 0 ? 0 : 1);");
    lines.add("  }");
    lines.add("}");
    check("it shows too few answers", answers > 80);
    Path source = folder.resolve("Shown.java");
    Files.write(source, lines);
    String classes = System.getProperty("java.class.path");
    check("a call doesn't compile", run("javac", "--release", "17", "-cp", classes, "-d", folder.toString(),
        source.toString()));
    check("an answer isn't true", run("java", "-cp", classes + java.io.File.pathSeparator + folder, "Shown"));
  }

  private static boolean run(String... command) throws IOException, InterruptedException {
    return new ProcessBuilder(command).inheritIO().start().waitFor() == 0;
  }

  private static void remove(Path folder) throws IOException {
    try (Stream<Path> files = Files.list(folder)) {
      files.forEach(file -> {
        try {
          Files.delete(file);
        } catch (IOException e) {
          throw new UncheckedIOException(e);
        }
      });
    }
    Files.delete(folder);
  }
}
