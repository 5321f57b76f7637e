/** What the tests share: counting wrong answers, and feeding texts and bytes. */
final class Bench {
  private int wrong = 0;
  private int asked = 0;
  private String heading = "";

  /** What is printed ahead of each wrong answer from here on. */
  void under(String heading) {
    this.heading = heading;
  }

  int asked() {
    return asked;
  }

  void due(String call, long got, long want) {
    asked++;
    if (got != want) {
      wrong++;
      System.out.println(heading + call + " answered " + got + ", due is " + want);
    }
  }

  void due(String call, String got, String want) {
    asked++;
    if (!got.equals(want)) {
      wrong++;
      System.out.println(heading + call + " answered " + got + ", due is " + want);
    }
  }

  void due(String call, boolean got, boolean want) {
    due(call, got ? 1L : 0L, want ? 1L : 0L);
  }

  /** Says how it went and ends with exit code 1 if an answer was wrong. */
  void end(String name) {
    System.out.println(name + ": " + asked + " answers, " + wrong + " wrong");
    if (wrong != 0) {
      System.exit(1);
    }
  }

  /** A new object with a cabinet and perhaps a law, which must be faultless. */
  static BureauCrown with(String cabinet, String... laws) {
    BureauCrown x = new BureauCrown();
    if (cabinet(x, cabinet) <= 0) {
      throw new IllegalStateException("a faulty cabinet: " + cabinet);
    }
    for (String law : laws) {
      rule(x, law);
    }
    return x;
  }

  /** A law that must be faultless. */
  static void rule(BureauCrown x, String law) {
    if (law(x, law) <= 0) {
      throw new IllegalStateException("a faulty law: " + law);
    }
  }

  /** A new object with these bytes on its tape. */
  static BureauCrown fed(int... bytes) {
    BureauCrown x = new BureauCrown();
    feedBytes(x, bytes);
    return x;
  }

  /** A new object with this text on its tape. */
  static BureauCrown fed(String text) {
    BureauCrown x = new BureauCrown();
    feedText(x, text);
    return x;
  }

  /** All that can be seen of the drawers, the papers, THE DAY and X without a change. */
  static String look(BureauCrown x) {
    StringBuilder all = new StringBuilder();
    for (int what = 0; what < 10; what++) {
      all.append(what == 6 ? 0 : x.count(what)).append(' ');
    }
    for (int d = 0; d < 12; d++) {
      if ((x.count(1) >> d & 1) != 0) {
        all.append(d).append(':').append(x.drawerIs(d, 0)).append(',').append(x.drawerIs(d, 1)).append(' ');
      }
    }
    for (int p = 0; p < x.count(2); p++) {
      for (int what = 0; what < 5; what++) {
        all.append(x.paperIs(p, what)).append(what < 4 ? ',' : ' ');
      }
    }
    return all.toString();
  }

  /** The X behind so many draws. */
  static int drawn(int x, int draws) {
    long now = x;
    for (int k = 0; k < draws; k++) {
      now = (25173 * now + 13849) % 65536;
    }
    return (int) now;
  }

  /** Feeds the text, with blanks behind it up to the next twenty. */
  static void feedText(BureauCrown x, String text) {
    int[] bytes = new int[text.length()];
    for (int i = 0; i < bytes.length; i++) {
      bytes[i] = text.charAt(i);
    }
    feedBytes(x, bytes);
  }

  static void feedBytes(BureauCrown x, int... bytes) {
    for (int from = 0; from < bytes.length; from += 20) {
      int[] word = new int[5];
      for (int k = 0; k < 20; k++) {
        int b = from + k < bytes.length ? bytes[from + k] : 32;
        word[k / 4] = word[k / 4] << 8 | b;
      }
      x.feed(word[0], word[1], word[2], word[3], word[4]);
    }
  }

  static int cabinet(BureauCrown x, String text) {
    feedText(x, text);
    return x.cabinet(text.length());
  }

  static int law(BureauCrown x, String text) {
    feedText(x, text);
    return x.law(text.length());
  }

  static int slip(BureauCrown x, String text, int what) {
    feedText(x, text);
    return x.slip(text.length(), what);
  }

  static String times(int n, String part, String between) {
    StringBuilder all = new StringBuilder();
    for (int i = 0; i < n; i++) {
      all.append(i == 0 ? "" : between).append(part);
    }
    return all.toString();
  }
}
