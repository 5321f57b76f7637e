/** All promises whose calls can be refused: such a call changes nothing, and no argument makes one throw. */
final class RefusalSentences {
  private static final String WORDS =
      "A call that is refused (NONE, false) changes nothing but the tape, where it is told.";
  private static final int MIN = Integer.MIN_VALUE;
  private static final int MAX = Integer.MAX_VALUE;
  /** FULL of the twelve drawers of the object that is asked, then other bytes. */
  private static final int[] TAPE = {4, 255, 0, 255, 255, 255, 255, 255, 255, 255, 255, 3, 1, 2, 3, 4, 5, 6, 7, 8};

  private interface Call {
    int on(BureauCrown x);
  }

  /** DAYS have gone by, one is READ, one is OUT, something is KEPT, and the tape has 20 bytes. */
  private static BureauCrown ready() {
    BureauCrown x = Bench.with("a9;c2;l5;A4>a;B3>l;C9;D1", "e1(p=2);r10(p=0);x(d=2)");
    x.days(2);
    x.keep();
    x.put(3, 2);
    x.days(1);
    x.put(3, -1);
    x.seed(4711);
    Bench.feedBytes(x, TAPE);
    return x;
  }

  private static void refused(Bench bench, int answer, String call, Call made) {
    BureauCrown x = ready();
    String before = Bench.look(x);
    bench.due(call, made.on(x), answer);
    bench.due("all but the tape behind " + call, Bench.look(x), before);
    bench.due("bytes of the tape behind " + call, x.count(6), 20);
    bench.due("the tape behind " + call, x.check(12), -1);
    // THE LAW and what is KEPT can be seen by what they do.
    bench.due("the LAW behind " + call, x.tried(3, 3), 1);
    bench.due("undo behind " + call, x.undo(), true);
    bench.due("what is KEPT behind " + call, x.count(0) * 10 + x.paperIs(1, 4), 22);
  }

  @Says(promise = 2, words = WORDS)
  static void promise02_refusedChangesNothing(Bench bench) {
    int[][] none = {{-1, 0}, {4, 0}, {24, 0}, {MIN, 0}, {MAX, 0}, {-1, -1}, {4, -1}, {0, 1}, {0, 12}, {0, -2},
      {0, MIN}, {0, MAX}, {2, 0}, {2, 11}, {0, 2}, {MIN, MIN}, {MAX, MAX}};
    for (int[] one : none) {
      refused(bench, 0, "put(" + one[0] + ", " + one[1] + ")", x -> x.put(one[0], one[1]) ? 1 : 0);
    }
  }

  @Says(promise = 3, words = WORDS)
  static void promise03_refusedChangesNothing(Bench bench) {
    BureauCrown x = ready();
    for (int k = 0; k < 12; k++) {
      x.feed(k, k, k, k, k);
    }
    String before = Bench.look(x);
    bench.due("feed", x.feed(-1, -1, -1, -1, -1), -1);
    bench.due("all but the tape", Bench.look(x), before);
    bench.due("bytes of the tape", x.count(6), 260);
    bench.due("the tape", x.check(12), -1);
  }

  @Says(promise = 4, words = WORDS)
  static void promise04_refusedChangesNothing(Bench bench) {
    for (int n : new int[] {0, -1, 21, 240, 241, MIN, MAX}) {
      refused(bench, -1, "law(" + n + ")", x -> x.law(n));
    }
  }

  @Says(promise = 5, words = WORDS)
  static void promise05_refusedChangesNothing(Bench bench) {
    for (int n : new int[] {0, -1, 21, 160, 161, MIN, MAX}) {
      refused(bench, -1, "cabinet(" + n + ")", x -> x.cabinet(n));
    }
  }

  @Says(promise = 6, words = WORDS)
  static void promise06_refusedChangesNothing(Bench bench) {
    for (int n : new int[] {0, -1, 101, MIN, MAX}) {
      refused(bench, -1, "days(" + n + ")", x -> x.days(n));
    }
  }

  @Says(promise = 7, words = WORDS)
  static void promise07_refusedChangesNothing(Bench bench) {
    int[][] none = {{0, 0}, {-1, 0}, {101, 0}, {MIN, 0}, {MAX, 0}, {1, -1}, {1, 4}, {1, 9}, {1, 11}, {1, 22},
      {1, 29}, {1, 34}, {1, 54}, {1, MIN}, {1, MAX}, {MIN, MIN}, {MAX, MAX}};
    for (int[] one : none) {
      refused(bench, -1, "tried(" + one[0] + ", " + one[1] + ")", x -> x.tried(one[0], one[1]));
    }
  }

  @Says(promise = 8, words = WORDS)
  static void promise08_refusedChangesNothing(Bench bench) {
    int[][] none = {{-1, 0}, {1, 0}, {12, 0}, {0, -1}, {0, 3}, {MIN, 0}, {MAX, 0}, {0, MIN}, {0, MAX}, {MAX, MIN}};
    for (int[] one : none) {
      refused(bench, -1, "drawerIs(" + one[0] + ", " + one[1] + ")", x -> x.drawerIs(one[0], one[1]));
    }
  }

  @Says(promise = 9, words = WORDS)
  static void promise09_refusedChangesNothing(Bench bench) {
    int[][] none = {{-1, 0}, {4, 0}, {24, 0}, {0, -1}, {0, 5}, {MIN, 0}, {MAX, 0}, {0, MIN}, {0, MAX}, {MAX, MIN}};
    for (int[] one : none) {
      refused(bench, -1, "paperIs(" + one[0] + ", " + one[1] + ")", x -> x.paperIs(one[0], one[1]));
    }
  }

  @Says(promise = 10, words = WORDS)
  static void promise10_refusedChangesNothing(Bench bench) {
    for (int n : new int[] {0, -1, 101, MIN, MAX}) {
      refused(bench, -1, "shut(" + n + ")", x -> x.shut(n));
    }
  }

  @Says(promise = 12, words = WORDS)
  static void promise12_refusedChangesNothing(Bench bench) {
    for (int what : new int[] {-1, 2, MIN, MAX}) {
      refused(bench, -1, "free(" + what + ")", x -> x.free(what));
    }
  }

  @Says(promise = 13, words = WORDS)
  static void promise13_refusedChangesNothing(Bench bench) {
    int[][] none = {{-1, 0}, {16, 0}, {0, -1}, {0, 2}, {MIN, 0}, {MAX, 0}, {0, MIN}, {0, MAX}};
    for (int[] one : none) {
      refused(bench, -1, "ofSubject(" + one[0] + ", " + one[1] + ")", x -> x.ofSubject(one[0], one[1]));
    }
  }

  @Says(promise = 15, words = WORDS)
  static void promise15_refusedChangesNothing(Bench bench) {
    int[][] none = {{0, 100}, {-1, 100}, {21, 100}, {80, 100}, {81, 100}, {MIN, 100}, {MAX, 100},
      {1, -1}, {1, 26}, {1, 99}, {1, 106}, {1, MIN}, {1, MAX}};
    for (int[] one : none) {
      refused(bench, -1, "slip(" + one[0] + ", " + one[1] + ")", x -> x.slip(one[0], one[1]));
    }
  }

  @Says(promise = 16, words = WORDS)
  static void promise16_refusedChangesNothing(Bench bench) {
    int[][] none = {{1, 0, 0}, {9, 0, 0}, {MIN, 0, 0}, {MAX, 0, 0}, {3, -1, 0}, {3, 3, 0}, {3, MIN, 0}, {3, MAX, 0},
      {3, 0, -1}, {3, 0, 2}, {3, 0, MIN}, {3, 0, MAX}};
    for (int[] one : none) {
      refused(bench, -1, "secret(" + one[0] + ", " + one[1] + ", " + one[2] + ")",
          x -> x.secret(one[0], one[1], one[2]));
    }
  }

  @Says(promise = 17, words = WORDS)
  static void promise17_refusedChangesNothing(Bench bench) {
    for (int n : new int[] {0, -1, 11, 13, MIN, MAX}) {
      refused(bench, -1, "nest(" + n + ")", x -> x.nest(n));
    }
  }

  @Says(promise = 18, words = WORDS)
  static void promise18_refusedChangesNothing(Bench bench) {
    for (int n : new int[] {0, -1, 21, MIN, MAX}) {
      refused(bench, -1, "dusted(" + n + ")", x -> x.dusted(n));
    }
  }

  @Says(promise = 19, words = WORDS)
  static void promise19_refusedChangesNothing(Bench bench) {
    for (int n : new int[] {0, -1, 11, 13, MIN, MAX}) {
      refused(bench, -1, "balanced(" + n + ")", x -> x.balanced(n));
    }
  }

  @Says(promise = 20, words = WORDS)
  static void promise20_refusedChangesNothing(Bench bench) {
    int[][] none = {{1, 1, 0}, {17, 1, 0}, {0, 0, 0}, {MIN, 1, 0}, {MAX, 1, 0}, {5, 0, 0}, {5, 6, 0}, {5, MIN, 0},
      {5, MAX, 0}, {MAX, MAX, 0}, {5, 1, -1}, {5, 1, 3}, {5, 1, MIN}, {5, 1, MAX}};
    for (int[] one : none) {
      refused(bench, -1, "pigeonholes(" + one[0] + ", " + one[1] + ", " + one[2] + ")",
          x -> x.pigeonholes(one[0], one[1], one[2]));
    }
  }

  @Says(promise = 21, words = WORDS)
  static void promise21_refusedChangesNothing(Bench bench) {
    int[][] none = {{0, 1}, {1, 0}, {9, 1}, {1, 9}, {MIN, 1}, {1, MIN}, {MAX, 1}, {1, MAX}, {MAX, MAX}};
    for (int[] one : none) {
      refused(bench, -1, "planked(" + one[0] + ", " + one[1] + ")", x -> x.planked(one[0], one[1]));
    }
  }

  @Says(promise = 22, words = WORDS)
  static void promise22_refusedChangesNothing(Bench bench) {
    int[][] none = {{1, 1, 0}, {17, 1, 0}, {MIN, 1, 0}, {MAX, 1, 0}, {4, 0, 0}, {4, 11, 0}, {4, 21, 0}, {4, MIN, 0},
      {4, MAX, 0}, {4, 1, -1}, {4, 1, 3}, {4, 1, MIN}, {4, 1, MAX}};
    for (int[] one : none) {
      refused(bench, -1, "unions(" + one[0] + ", " + one[1] + ", " + one[2] + ")",
          x -> x.unions(one[0], one[1], one[2]));
    }
  }

  @Says(promise = 23, words = WORDS)
  static void promise23_refusedChangesNothing(Bench bench) {
    int[][] none = {{0, 0}, {-1, 0}, {17, 0}, {MIN, 0}, {MAX, 0}, {4, -1}, {4, 16}, {4, MIN}, {4, MAX}};
    for (int[] one : none) {
      refused(bench, -1, "heirs(" + one[0] + ", " + one[1] + ")", x -> x.heirs(one[0], one[1]));
    }
  }

  @Says(promise = 24, words = WORDS)
  static void promise24_refusedChangesNothing(Bench bench) {
    int[][] none = {{0, 0}, {0, 100}, {11, 0}, {11, 100}, {MIN, 100}, {MAX, 100}, {4, -1}, {4, 4}, {4, 99}, {4, 101},
      {4, MIN}, {4, MAX}};
    for (int[] one : none) {
      refused(bench, -1, "heard(" + one[0] + ", " + one[1] + ")", x -> x.heard(one[0], one[1]));
    }
  }

  @Says(promise = 25, words = WORDS)
  static void promise25_refusedChangesNothing(Bench bench) {
    int[][] none = {{-1, 0}, {0, 1440}, {1440, 1440}, {5, 4}, {MIN, MAX}, {MAX, MIN}, {MIN, MIN}, {MAX, MAX}};
    for (int[] one : none) {
      refused(bench, -1, "ticks(" + one[0] + ", " + one[1] + ")", x -> x.ticks(one[0], one[1]));
    }
  }

  @Says(promise = 26, words = WORDS)
  static void promise26_refusedChangesNothing(Bench bench) {
    for (int s : new int[] {-1, 65536, MIN, MAX}) {
      refused(bench, 0, "seed(" + s + ")", x -> x.seed(s) ? 1 : 0);
    }
  }

  @Says(promise = 28, words = WORDS)
  static void promise28_refusedChangesNothing(Bench bench) {
    BureauCrown x = Bench.with("a9;A4>a;B3", "r10(1=1)");
    x.days(2);
    Bench.feedBytes(x, 4, 255);
    String before = Bench.look(x);
    bench.due("undo", x.undo(), false);
    bench.due("all but the tape", Bench.look(x), before);
    bench.due("bytes of the tape", x.count(6), 20);
    bench.due("the tape", x.check(2), -1);
  }

  @Says(promise = 29, words = WORDS)
  static void promise29_refusedChangesNothing(Bench bench) {
    for (int n : new int[] {-1, 13, 20, 21, MIN, MAX}) {
      refused(bench, -2, "check(" + n + ")", x -> x.check(n));
    }
  }

  @Says(promise = 30, words = WORDS)
  static void promise30_refusedChangesNothing(Bench bench) {
    for (int what : new int[] {-1, 10, MIN, MAX}) {
      refused(bench, -1, "count(" + what + ")", x -> x.count(what));
    }
  }
}
