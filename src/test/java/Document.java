import java.io.IOException;
import java.nio.file.Files;
import java.nio.file.Path;
import java.util.Arrays;

/** The sections of ../shared/DOC.md, and which of their words some test has quoted. */
final class Document {
  private static final Path PLACE = Path.of("../shared/DOC.md");
  private static final int PROMISES = 30;

  /** Section 0 holds 'What it is' (without its story) and 'Terms'; section k the promise k. */
  private final String[] sections = new String[PROMISES + 1];
  private final boolean[][] quoted = new boolean[PROMISES + 1][];

  private Document(String text) {
    sections[0] = plain(between(text, "An object is used", "## The public face")
        + between(text, "## Terms", "## Promise 1:"));
    for (int k = 1; k <= PROMISES; k++) {
      sections[k] = plain(between(text, "## Promise " + k + ":", k < PROMISES ? "## Promise " + (k + 1) + ":" : "## Not promised"));
    }
    for (int k = 0; k <= PROMISES; k++) {
      quoted[k] = new boolean[sections[k].length()];
    }
  }

  /** null if the document can't be found. */
  static Document read() throws IOException {
    return Files.exists(PLACE) ? new Document(Files.readString(PLACE)) : null;
  }

  private static String between(String text, String from, String to) {
    int start = text.indexOf(from);
    int end = text.indexOf(to, Math.max(start, 0));
    return start < 0 || end < 0 ? "" : text.substring(start, end);
  }

  /** Without headings, fences, the calls' heads and the story's numbers; one blank between two words. */
  private static String plain(String text) {
    return text.replaceAll("(?m)^#.*$", " ").replaceAll("(?m)^```.*$", " ").replaceAll("==== \\d\\.", " ")
        .replaceAll("`(?!NONE)[^`]*`", " ").replaceAll("\\s+", " ").trim();
  }

  /** Marks the words in the promise's own section, or else in the terms; false if they stand in neither. */
  boolean quote(int promise, String words) {
    return mark(promise, words) || mark(0, words);
  }

  private boolean mark(int section, String words) {
    boolean found = false;
    for (int at = sections[section].indexOf(words); at >= 0; at = sections[section].indexOf(words, at + 1)) {
      Arrays.fill(quoted[section], at, at + words.length(), true);
      found = true;
    }
    return found;
  }

  /** What of a section no test has quoted: pieces with a | between two; empty if no letter and no digit is left. */
  String unquoted(int section) {
    StringBuilder left = new StringBuilder();
    boolean any = false;
    for (int k = 0; k < quoted[section].length; k++) {
      char sign = sections[section].charAt(k);
      if (!quoted[section][k]) {
        left.append(sign);
        any |= Character.isLetterOrDigit(sign);
      } else if (left.length() > 0 && left.charAt(left.length() - 1) != '|') {
        left.append('|');
      }
    }
    return any ? left.toString() : "";
  }

  static int promises() {
    return PROMISES;
  }
}
