/** What the tests share: counting wrong answers, and feeding texts and bytes. */
final class Bench {
  private int wrong = 0;
  private int asked = 0;

  void due(String call, long got, long want) {
    asked++;
    if (got != want) {
      wrong++;
      System.out.println(call + " answered " + got + ", due is " + want);
    }
  }

  void due(String call, boolean got, boolean want) {
    due(call, got ? 1L : 0L, want ? 1L : 0L);
  }

  /** Says how it went and ends with exit code 1 if an answer was wrong. */
  void end(String name) {
    System.out.println(name + ": " + asked + " answers, " + wrong + " wrong");
    if (wrong != 0) {
      System.exit(1);
    }
  }

  /** Feeds the text, with blanks behind it up to the next twenty. */
  static void feedText(BureauCrown x, String text) {
    int[] bytes = new int[text.length()];
    for (int i = 0; i < bytes.length; i++) {
      bytes[i] = text.charAt(i);
    }
    feedBytes(x, bytes);
  }

  static void feedBytes(BureauCrown x, int... bytes) {
    for (int from = 0; from < bytes.length; from += 20) {
      int[] word = new int[5];
      for (int k = 0; k < 20; k++) {
        int b = from + k < bytes.length ? bytes[from + k] : 32;
        word[k / 4] = word[k / 4] << 8 | b;
      }
      x.feed(word[0], word[1], word[2], word[3], word[4]);
    }
  }

  static int cabinet(BureauCrown x, String text) {
    feedText(x, text);
    return x.cabinet(text.length());
  }

  static int law(BureauCrown x, String text) {
    feedText(x, text);
    return x.law(text.length());
  }

  static int slip(BureauCrown x, String text, int what) {
    feedText(x, text);
    return x.slip(text.length(), what);
  }

  static String times(int n, String part, String between) {
    StringBuilder all = new StringBuilder();
    for (int i = 0; i < n; i++) {
      all.append(i == 0 ? "" : between).append(part);
    }
    return all.toString();
  }
}
