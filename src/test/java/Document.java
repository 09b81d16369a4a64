import java.io.IOException;
import java.io.UncheckedIOException;
import java.nio.file.Files;
import java.nio.file.Path;
import java.util.Arrays;
import java.util.List;

/**
 * ../shared/DOC.md, so that a test can't name a sentence that the document doesn't have. Where the file isn't, the
 * class can still be tried, and nothing is said against the names.
 */
final class Document {
  private static final String TEXT = text();

  private Document() {
  }

  private static String text() {
    Path file = Path.of("../shared/DOC.md");
    try {
      return Files.exists(file) ? Files.readString(file).replaceAll("\\s+", " ") : "";
    } catch (IOException e) {
      throw new UncheckedIOException(e);
    }
  }

  /** Whether the words stand in a part of the document: "What it is", "Terms I" to "Terms IV", or "Promise n". */
  static boolean says(String where, String words) {
    return TEXT.isEmpty() || part(where).contains(words.replaceAll("\\s+", " "));
  }

  /** What is left of the terms and promises where some words are taken out, headings and the face of calls too. */
  static List<String> without(List<String> some) {
    String rest = between("## Terms", "## Not promised").replaceAll("## Promise \\d+: [\\w ]+ `[^`]*`:", "|");
    boolean[] taken = new boolean[rest.length()];
    for (String words : some) {
      for (int i = rest.indexOf(words); i >= 0; i = rest.indexOf(words, i + 1)) {
        Arrays.fill(taken, i, i + words.length(), true);
      }
    }
    StringBuilder left = new StringBuilder();
    for (int i = 0; i < taken.length; i++) {
      left.append(taken[i] ? '|' : rest.charAt(i));
    }
    return List.of(left.toString().split("\\|+"));
  }

  private static String part(String where) {
    switch (where) {
      case "Terms I":
        return between("## Terms", "==== II.");
      case "Terms II":
        return between("==== II.", "==== III.");
      case "Terms III":
        return between("==== III.", "==== IV.");
      case "Terms IV":
        return between("==== IV.", "## Promise 1:");
      default:
        return between("## " + where + (where.startsWith("Promise") ? ":" : ""), " ## ");
    }
  }

  private static String between(String first, String last) {
    int from = TEXT.indexOf(first);
    int to = from < 0 ? -1 : TEXT.indexOf(last, from + first.length());
    return to < 0 ? "" : TEXT.substring(from, to);
  }
}
