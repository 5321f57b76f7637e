/** Promises 11 and 16 to 25: the reckonings beside the days. */
final class ReckonSentences {
  /** Bytes for a reckoning, and then that the tape is as long as told. */
  private static void stays(Bench bench, BureauCrown x, String call, int got, int length) {
    bench.due(call, got, -1);
    bench.due("the tape behind " + call, x.count(6), length);
  }

  private static void empty(Bench bench, BureauCrown x, String call, int got, int due) {
    bench.due(call, got, due);
    bench.due("the tape behind " + call, x.count(6), 0);
  }

  // ---- promise 11

  private static void fewest(Bench bench, String cabinet, int due) {
    bench.due("fewest of " + cabinet, Bench.with(cabinet).fewest(), due);
  }

  @Says(promise = 11, words = "FEWEST (no PAPERS: 0)")
  static void promise11_noPapers(Bench bench) {
    bench.due("without a CABINET", new BureauCrown().fewest(), 0);
    fewest(bench, "a5", 0);
    fewest(bench, "a5;b5;l9", 0);
  }

  @Says(promise = 11, words = "FEWEST: the fewest of told DRAWERS")
  static void promise11_theFewestOfToldDrawers(Bench bench) {
    fewest(bench, "a5;A5", 1);
    fewest(bench, "a1;b2;c3;d6;A1;B2;C3", 1);
    fewest(bench, "a4;b4;c4;A3;B3;C3", 3);
    fewest(bench, "a8;b8;A5;B5;C3;D3", 2);
    fewest(bench, "a9;b7;c5;A7;B5;C9", 3);
    fewest(bench, "a5;b7;c9;A7;B5;C9", 3);
    fewest(bench, "a7;b9;c5;A7;B5;C9", 3);
    fewest(bench, "a5;b9;A9;B5", 2);
    fewest(bench, "a15;b15;c9;A6;B6;C5;D5;E5;F3", 2);
    fewest(bench, "a1;b1;c1;d1;e1;f1;g1;h1;i1;j1;k1;l99;A1;A1;A1", 1);
    fewest(bench, "a9;b9;c9;d9;e9;f9;g9;h9;i9;j9;k9;l9;" + Bench.times(10, "A9", ";"), 10);
  }

  @Says(promise = 11, words = "as if empty, into which all PAPERS, IN and OUT")
  static void promise11_asIfEmpty(Bench bench) {
    // They lie in two DRAWERS, but would go into one.
    fewest(bench, "a9;b9;A4>a;B5>b", 1);
    fewest(bench, "a9;b9;A4>a;B5", 1);
    fewest(bench, "a9;b9;A9>a;B9>b;C1", -2);
    fewest(bench, "a5;A5>a;B1", -2);
  }

  @Says(promise = 11, words = "(10 at most; more: -4), would go")
  static void promise11_10PapersAtMost(Bench bench) {
    fewest(bench, "a99;" + Bench.times(10, "A9", ";"), 1);
    fewest(bench, "a99;" + Bench.times(11, "A1", ";"), -4);
    fewest(bench, "a99;" + Bench.times(11, "A1>a", ";"), -4);
    fewest(bench, "a99;" + Bench.times(24, "A1", ";"), -4);
  }

  @Says(promise = 11, words = "each whole in one; -2: they do not go into all.")
  static void promise11_eachWholeInOne(Bench bench) {
    // The ROOM of both is enough, but one would have to be torn.
    fewest(bench, "a5;b5;A4;B3;C3", -2);
    fewest(bench, "a8;b8;A6;B6;C4", -2);
    fewest(bench, "a5;A6", -2);
    fewest(bench, "a1;b2;c3;A6", -2);
    fewest(bench, "A1", -2);
    fewest(bench, "a9;b7;c5;A7;B6;C9", -2);
    fewest(bench, "a8;b9;c9;d9;e9;f9;g9;h9;i9;j9;" + Bench.times(10, "A9", ";"), -2);
  }

  @Says(promise = 11, words = "FEWEST: the fewest of told DRAWERS")
  static void promise11_nothingIsLeftOfOtherReckonings(Bench bench) {
    int[] falling = new int[24];
    for (int k = 0; k < 24; k++) {
      falling[k] = 100 - k / 2;
    }
    BureauCrown x = Bench.with("a5;A5;B5");
    Bench.feedBytes(x, falling);
    bench.due("nest(12)", x.nest(12), 12);
    bench.due("one DRAWER for two", x.fewest(), -2);
    Bench.cabinet(x, "a5;b5;A5;B5;C5");
    Bench.feedBytes(x, falling);
    bench.due("dusted(20)", x.dusted(20), 18);
    bench.due("two DRAWERS for three", x.fewest(), -2);
    Bench.cabinet(x, "a5;b5;A5;B5");
    bench.due("two DRAWERS for two", x.fewest(), 2);
    Bench.cabinet(x, "a9;A5");
    bench.due("one for one", x.fewest(), 1);
  }

  @Says(promise = 11, words = "-4, -2 as above, -4 ahead")
  static void promise11_minus4Ahead(Bench bench) {
    fewest(bench, Bench.times(11, "A9", ";"), -4);
    fewest(bench, "a1;" + Bench.times(11, "A9", ";"), -4);
    fewest(bench, Bench.times(10, "A9", ";"), -2);
  }

  // ---- promise 16

  private static void secret(Bench bench, int panel, int moves, int first, int... bytes) {
    int n = bytes.length / 2;
    BureauCrown x = Bench.fed(bytes);
    empty(bench, x, "moves till panel " + panel + " of " + n, x.secret(n, panel, 0), moves);
    Bench.feedBytes(x, bytes);
    empty(bench, x, "the first till panel " + panel + " of " + n, x.secret(n, panel, 1), first);
  }

  /** Each but the first can be moved only if the one ahead of it is open and all before that one are shut. */
  private static int[] rings(int n) {
    int[] bytes = new int[2 * n];
    for (int k = 1; k < n; k++) {
      bytes[2 * k] = 1 << (k - 1);
      bytes[2 * k + 1] = (1 << (k - 1)) - 1;
    }
    return bytes;
  }

  @Says(promise = 16, words = "A SECRET DRAWER behind 2 to 8 panels")
  static void promise16_2To8Panels(Bench bench) {
    secret(bench, 1, 2, 0, rings(2));
    secret(bench, 7, 128, 0, rings(8));
    secret(bench, 4, 16, 0, rings(8));
    // The last of eight is moved when all others are open.
    int[] all = new int[16];
    all[14] = 0b01111111;
    secret(bench, 7, 8, 0, all);
    for (int k = 0; k < 7; k++) {
      all[2 * k] = k == 6 ? 0 : 1 << (k + 1);
    }
    secret(bench, 7, 8, 6, all);
    BureauCrown x = Bench.fed(new int[20]);
    stays(bench, x, "secret(1, 0, 0)", x.secret(1, 0, 0), 20);
    stays(bench, x, "secret(9, 0, 0)", x.secret(9, 0, 0), 20);
  }

  @Says(promise = 16, words = "(all shut at first)")
  static void promise16_allShutAtFirst(Bench bench) {
    secret(bench, 0, 1, 0, 0, 0b10, 0, 0);
    secret(bench, 1, 1, 1, 0, 0, 0, 0b01);
    secret(bench, 2, 1, 2, 0, 0, 0, 0, 0, 0b011);
    secret(bench, 0, -2, -2, 0b10, 0, 0b01, 0);
  }

  @Says(promise = 16, words = "each may be moved (opened, or shut if it is open)")
  static void promise16_openedOrShut(Bench bench) {
    // 0, then 1, then 0 shut again, then 2.
    secret(bench, 2, 4, 0, 0, 0b100, 0b001, 0, 0b010, 0b001);
    // As above, but 0 can't be shut once 1 is open.
    secret(bench, 2, -2, -2, 0, 0b010, 0b001, 0, 0b010, 0b001);
  }

  @Says(promise = 16, words = "if some others are open (bits) and some others are shut (bits):")
  static void promise16_someOpenSomeShut(Bench bench) {
    secret(bench, 2, 2, 0, 0, 0, 0, 0, 0b001, 0);
    secret(bench, 2, 2, 1, 0, 0, 0, 0, 0b010, 0);
    secret(bench, 2, 3, 0, 0, 0, 0, 0, 0b011, 0);
    secret(bench, 2, 2, 0, 0, 0, 0, 0, 0b001, 0b010);
    // 1 must be open for 0, and 0 must be shut for 2 while 1 is open: 1, 2.
    secret(bench, 2, 2, 1, 0b010, 0, 0, 0, 0b010, 0b001);
    // Both open and shut: it can't be moved.
    secret(bench, 2, -2, -2, 0, 0, 0, 0, 0b001, 0b001);
  }

  @Says(promise = 16, words = "the fewest moves till one panel is open; the panel that is moved first (of all ways of so few the lowest).")
  static void promise16_theFirstOfAllWaysTheLowest(Bench bench) {
    secret(bench, 2, 3, 0, 0, 0, 0, 0, 0b011, 0);
    // 1 must be moved ahead of 0.
    secret(bench, 2, 3, 1, 0b010, 0, 0, 0, 0b011, 0);
    // 3 needs 1 and 2: 0, which is free too, is on no way of so few.
    secret(bench, 3, 3, 1, 0, 0, 0, 0, 0, 0, 0b0110, 0);
    secret(bench, 1, 1, 1, 0, 0, 0, 0);
    // 0 and 1 in any order, then 2, then 3: the lowest of two first ones; and if 0 needs 1, there is but one.
    secret(bench, 3, 4, 0, 0, 0, 0, 0, 0b0011, 0, 0b0111, 0);
    secret(bench, 3, 4, 1, 0b0010, 0, 0, 0, 0b0011, 0, 0b0111, 0);
  }

  @Says(promise = 16, words = "A SECRET DRAWER by the first 2 n bytes of the tape (bits of panels open, bits shut; n 2 to 8; empty then)")
  static void promise16_byTheFirst2nBytes(Bench bench) {
    // The bytes behind would be bits of panels there are not.
    BureauCrown x = Bench.fed(0, 0, 0b01, 0, 255, 255, 255, 255);
    empty(bench, x, "secret(2, 1, 0)", x.secret(2, 1, 0), 2);
    Bench.feedBytes(x, 0, 0, 0, 0b01, 255, 255, 255, 255);
    empty(bench, x, "bits shut stand behind bits open", x.secret(2, 1, 0), 1);
    Bench.feedBytes(x, 255, 255, 255, 255);
    empty(bench, x, "-3", x.secret(2, 1, 0), -3);
    Bench.feedBytes(x, 2, 0, 1, 0);
    empty(bench, x, "-2", x.secret(2, 1, 0), -2);
  }

  @Says(promise = 16, words = "A SECRET DRAWER by the first 2 n bytes of the tape (bits of panels open, bits shut; n 2 to 8; empty then)")
  static void promise16_nothingIsLeftOfTheOneBefore(Bench bench) {
    BureauCrown x = new BureauCrown();
    for (int k = 0; k < 3; k++) {
      Bench.feedBytes(x, rings(8));
      bench.due("rings", x.secret(8, 7, 0), 128);
      Bench.feedBytes(x, 0b10, 0, 0b01, 0);
      bench.due("none can be moved", x.secret(2, 0, 0), -2);
      Bench.feedBytes(x, 0, 0, 0, 0, 0b011, 0);
      bench.due("0, 1, 2", x.secret(3, 2, 0), 3);
      Bench.feedBytes(x, 0b100, 0, 0b100, 0, 0, 0);
      bench.due("2, 0", x.secret(3, 0, 1), 2);
      Bench.feedBytes(x, 0b100, 0, 0b101, 0, 0, 0);
      bench.due("2, 0, 1", x.secret(3, 1, 0), 3);
    }
  }

  @Says(promise = 16, words = "till a panel (0 to n - 1) is open, what 0 moves, 1 the first panel;")
  static void promise16_aPanel(Bench bench) {
    secret(bench, 0, 1, 0, rings(3));
    secret(bench, 1, 2, 0, rings(3));
    secret(bench, 2, 4, 0, rings(3));
  }

  @Says(promise = 16, words = "-2: it can't be")
  static void promise16_itCantBe(Bench bench) {
    secret(bench, 0, -2, -2, 0b10, 0, 0b01, 0);
    secret(bench, 1, -2, -2, 0b10, 0, 0b01, 0);
    secret(bench, 2, -2, -2, 0, 0, 0, 0, 0b1000, 0, 0b0100, 0);
    secret(bench, 1, 1, 1, 0, 0, 0, 0, 0b1000, 0, 0b0100, 0);
  }

  @Says(promise = 16, words = "-3: bits of panels there are not, of itself")
  static void promise16_bitsOfPanelsThereAreNot(Bench bench) {
    secret(bench, 1, -3, -3, 0b01, 0, 0, 0);
    secret(bench, 0, -3, -3, 0, 0, 0, 0b10);
    secret(bench, 0, -3, -3, 0b100, 0, 0, 0);
    secret(bench, 0, -3, -3, 0, 0, 0, 0b100);
    secret(bench, 0, -3, -3, 0, 0, 0b10000000, 0);
    // It is asked ahead of whether it can be.
    secret(bench, 0, -3, -3, 0b10, 0, 0b01, 0b10);
    int[] eight = new int[16];
    eight[15] = 0b10000000;
    secret(bench, 0, -3, -3, eight);
    eight[15] = 0b01111111;
    secret(bench, 7, 1, 7, eight);
  }

  @Says(promise = 16, words = "NONE: no such ones, it has not so many (the tape stays)")
  static void promise16_noSuchOnes(Bench bench) {
    BureauCrown x = Bench.fed(rings(3));
    int[] ns = {0, 1, 9, -1, Integer.MAX_VALUE, Integer.MIN_VALUE};
    for (int n : ns) {
      stays(bench, x, "secret(" + n + ", 0, 0)", x.secret(n, 0, 0), 20);
    }
    int[] panels = {-1, 3, 8, Integer.MAX_VALUE, Integer.MIN_VALUE};
    for (int panel : panels) {
      stays(bench, x, "secret(3, " + panel + ", 0)", x.secret(3, panel, 0), 20);
    }
    int[] whats = {-1, 2, Integer.MAX_VALUE, Integer.MIN_VALUE};
    for (int what : whats) {
      stays(bench, x, "secret(3, 0, " + what + ")", x.secret(3, 0, what), 20);
    }
    empty(bench, x, "secret(3, 2, 0)", x.secret(3, 2, 0), 4);
    stays(bench, x, "secret(2, 0, 0) of an empty tape", x.secret(2, 0, 0), 0);
  }

  // ---- promise 17

  private static void nest(Bench bench, int due, int... bytes) {
    BureauCrown x = Bench.fed(bytes);
    empty(bench, x, "nest of " + bytes.length / 2, x.nest(bytes.length / 2), due);
  }

  @Says(promise = 17, words = "NEST: 1 to 12 tables (width, depth: bytes): the most that go one under the other")
  static void promise17_1To12Tables(Bench bench) {
    nest(bench, 1, 7, 7);
    nest(bench, 1, 0, 0);
    nest(bench, 3, 1, 1, 2, 2, 3, 3);
    nest(bench, 3, 3, 3, 1, 1, 2, 2);
    nest(bench, 2, 1, 5, 2, 6, 3, 3, 4, 4);
    nest(bench, 3, 1, 1, 9, 9, 5, 1, 1, 5, 6, 6);
    nest(bench, 4, 0, 0, 255, 255, 128, 1, 1, 127, 129, 128);
    int[] falling = new int[24];
    int[] alike = new int[24];
    for (int k = 0; k < 12; k++) {
      falling[2 * k] = 250 - k;
      falling[2 * k + 1] = 12 - k;
    }
    nest(bench, 12, falling);
    nest(bench, 1, alike);
  }

  @Says(promise = 17, words = "each less both ways than the one above (they can't be turned).")
  static void promise17_lessBothWays(Bench bench) {
    nest(bench, 1, 1, 9, 2, 9);
    nest(bench, 1, 9, 1, 9, 2);
    nest(bench, 2, 9, 9, 8, 8);
    nest(bench, 1, 5, 5, 5, 5);
    nest(bench, 1, 1, 2, 2, 1);
    nest(bench, 1, 2, 8, 9, 3);
  }

  @Says(promise = 17, words = "NEST by the first 2 n bytes of the tape (n 1 to 12; empty then): how many;")
  static void promise17_byTheFirst2nBytes(Bench bench) {
    BureauCrown x = Bench.fed(1, 1, 2, 2, 3, 3, 4, 4, 5, 5, 6, 6, 7, 7, 8, 8, 9, 9, 10, 10, 11, 11, 12, 12, 13, 13);
    empty(bench, x, "nest(12) of 26 bytes and more", x.nest(12), 12);
    Bench.feedBytes(x, 1, 1, 2, 2, 3, 3);
    empty(bench, x, "nest(2)", x.nest(2), 2);
    Bench.feedBytes(x, 1, 1, 2, 2, 3, 3);
    empty(bench, x, "nest(1)", x.nest(1), 1);
  }

  @Says(promise = 17, words = "NONE: no such n, it has not so many (the tape stays)")
  static void promise17_noSuchN(Bench bench) {
    BureauCrown x = Bench.fed(1, 1, 2, 2, 3, 3, 4, 4, 5, 5, 6, 6, 7, 7, 8, 8, 9, 9, 10, 10);
    int[] none = {0, -1, 11, 12, 13, Integer.MAX_VALUE, Integer.MIN_VALUE};
    for (int n : none) {
      stays(bench, x, "nest(" + n + ") of 20 bytes", x.nest(n), 20);
    }
    empty(bench, x, "nest(10) of 20 bytes", x.nest(10), 10);
    stays(bench, x, "nest(1) of an empty tape", x.nest(1), 0);
    Bench.feedBytes(x, new int[40]);
    stays(bench, x, "nest(13) of 40 bytes", x.nest(13), 40);
  }

  // ---- promise 18

  private static void dusted(Bench bench, int due, int... bytes) {
    BureauCrown x = Bench.fed(bytes);
    empty(bench, x, "dusted of " + bytes.length, x.dusted(bytes.length), due);
  }

  @Says(promise = 18, words = "DUSTED: a shelf of 1 to 20 books (bytes)")
  static void promise18_1To20Books(Bench bench) {
    dusted(bench, 0, 7);
    dusted(bench, 0, 1, 2, 3, 4, 5, 6, 7, 8, 9, 10, 11, 12, 13, 14, 15, 16, 17, 18, 19, 20);
    dusted(bench, 19, 20, 19, 18, 17, 16, 15, 14, 13, 12, 11, 10, 9, 8, 7, 6, 5, 4, 3, 2, 1);
    dusted(bench, 0, 0, 127, 128, 255);
  }

  @Says(promise = 18, words = "how few must be taken out and put back elsewhere so that none is less than the one ahead of it.")
  static void promise18_howFew(Bench bench) {
    dusted(bench, 1, 3, 1, 2, 2, 5);
    dusted(bench, 0, 4, 4, 4);
    dusted(bench, 1, 2, 1);
    dusted(bench, 4, 2, 1, 4, 3, 6, 5, 8, 7);
    dusted(bench, 1, 9, 1, 2, 3);
    dusted(bench, 1, 1, 2, 3, 0);
    dusted(bench, 3, 5, 6, 1, 2, 3, 7, 4);
  }

  @Says(promise = 18, words = "DUSTED by the first n bytes of the tape (n 1 to 20; empty then): how few;")
  static void promise18_byTheFirstNBytes(Bench bench) {
    BureauCrown x = Bench.fed(1, 2, 3, 0, 0);
    empty(bench, x, "dusted(3)", x.dusted(3), 0);
    Bench.feedBytes(x, 1, 2, 3, 0, 0);
    empty(bench, x, "dusted(5)", x.dusted(5), 2);
    Bench.feedBytes(x, 3, 2, 1);
    empty(bench, x, "dusted(1)", x.dusted(1), 0);
  }

  @Says(promise = 18, words = "NONE: no such n, it has not so many (the tape stays)")
  static void promise18_noSuchN(Bench bench) {
    BureauCrown x = Bench.fed(new int[40]);
    int[] none = {0, -1, 21, 40, Integer.MAX_VALUE, Integer.MIN_VALUE};
    for (int n : none) {
      stays(bench, x, "dusted(" + n + ") of 40 bytes", x.dusted(n), 40);
    }
    empty(bench, x, "dusted(20)", x.dusted(20), 0);
    stays(bench, x, "dusted(1) of an empty tape", x.dusted(1), 0);
  }

  // ---- promise 19

  private static void balanced(Bench bench, int due, int... bytes) {
    BureauCrown x = Bench.fed(bytes);
    empty(bench, x, "balanced of " + bytes.length / 2, x.balanced(bytes.length / 2), due);
  }

  @Says(promise = 19, words = "BALANCED: 1 to 12 things along a bar (where 0 to 255, weight 0 to 255):")
  static void promise19_1To12Things(Bench bench) {
    balanced(bench, 0, 0, 1);
    balanced(bench, 255, 255, 255);
    balanced(bench, 128, 128, 200);
    int[] twelve = new int[24];
    for (int k = 0; k < 24; k++) {
      twelve[k] = 255;
    }
    balanced(bench, 255, twelve);
    twelve[0] = 243;
    balanced(bench, 254, twelve);
  }

  @Says(promise = 19, words = "the place (0 to 255) at which the weights each side, times how far off they are, are alike;")
  static void promise19_theWeightsEachSideAreAlike(Bench bench) {
    balanced(bench, 3, 0, 2, 9, 1);
    balanced(bench, 5, 2, 3, 8, 3);
    balanced(bench, 3, 1, 1, 5, 1, 9, 0);
    balanced(bench, 9, 9, 4);
    balanced(bench, 4, 2, 1, 4, 200, 6, 1);
    balanced(bench, 127, 0, 128, 255, 127, 127, 1);
  }

  @Says(promise = 19, words = "-2: none;")
  static void promise19_none(Bench bench) {
    balanced(bench, -2, 0, 2, 8, 1);
    balanced(bench, -2, 0, 255, 255, 255);
    balanced(bench, -2, 2, 3, 8, 1);
    balanced(bench, -2, 0, 1, 1, 1);
  }

  @Says(promise = 19, words = "of many (no weight at all: each) the lowest.")
  static void promise19_ofManyTheLowest(Bench bench) {
    balanced(bench, 0, 9, 0, 8, 0);
    balanced(bench, 0, 255, 0);
  }

  @Says(promise = 19, words = "BALANCED by the first 2 n bytes of the tape (where, weight; n 1 to 12; empty then): the place;")
  static void promise19_byTheFirst2nBytes(Bench bench) {
    BureauCrown x = Bench.fed(9, 1, 200, 77);
    empty(bench, x, "balanced(1)", x.balanced(1), 9);
    int[] twentyFour = new int[24];
    twentyFour[23] = 1;
    twentyFour[22] = 33;
    Bench.feedBytes(x, twentyFour);
    empty(bench, x, "balanced(12)", x.balanced(12), 33);
  }

  @Says(promise = 19, words = "-2 as above;")
  static void promise19_minus2(Bench bench) {
    balanced(bench, -2, 1, 1, 2, 1);
    balanced(bench, -2, 254, 1, 255, 1);
  }

  @Says(promise = 19, words = "NONE: no such n, it has not so many (the tape stays)")
  static void promise19_noSuchN(Bench bench) {
    BureauCrown x = Bench.fed(5, 1, 5, 1, 5, 1, 5, 1, 5, 1, 5, 1, 5, 1, 5, 1, 5, 1, 5, 1);
    int[] none = {0, -1, 11, 12, 13, Integer.MAX_VALUE, Integer.MIN_VALUE};
    for (int n : none) {
      stays(bench, x, "balanced(" + n + ") of 20 bytes", x.balanced(n), 20);
    }
    empty(bench, x, "balanced(10) of 20 bytes", x.balanced(10), 5);
    stays(bench, x, "balanced(1) of an empty tape", x.balanced(1), 0);
    Bench.feedBytes(x, new int[40]);
    stays(bench, x, "balanced(13) of 40 bytes", x.balanced(13), 40);
  }

  // ---- promise 20

  private static void holes(Bench bench, int m, int looked, int last, int longest, int... bytes) {
    int[] due = {looked, last, longest};
    for (int what = 0; what < 3; what++) {
      BureauCrown x = Bench.fed(bytes);
      empty(bench, x, "pigeonholes(" + m + ", " + bytes.length + ", " + what + ")",
          x.pigeonholes(m, bytes.length, what), due[what]);
    }
  }

  @Says(promise = 20, words = "PIGEONHOLES: 2 to 16 holes in a row, 1 to 16 letters by numbers (bytes), no more than holes:")
  static void promise20_holesAndLetters(Bench bench) {
    holes(bench, 2, 1, 1, 1, 1);
    holes(bench, 2, 2, 0, 2, 1, 0);
    holes(bench, 16, 1, 15, 1, 255);
    holes(bench, 16, 136, 15, 16, new int[16]);
    BureauCrown x = Bench.fed(new int[20]);
    stays(bench, x, "one letter more than holes", x.pigeonholes(5, 6, 0), 20);
    stays(bench, x, "17 letters", x.pigeonholes(16, 17, 0), 20);
  }

  @Says(promise = 20, words = "each goes to the hole of its number modulo holes or the next empty one on (round):")
  static void promise20_theNextEmptyOneOn(Bench bench) {
    holes(bench, 5, 6, 0, 3, 3, 8, 13);
    holes(bench, 10, 1, 5, 1, 255);
    holes(bench, 3, 5, 2, 3, 0, 1, 3);
    holes(bench, 16, 3, 0, 2, 15, 255);
    holes(bench, 7, 1, 2, 1, 128);
  }

  @Says(promise = 20, words = "how many holes are looked at in all (the empty one with them each time); in which one the last lies;")
  static void promise20_howManyAreLookedAt(Bench bench) {
    holes(bench, 4, 1, 0, 1, 0);
    holes(bench, 4, 2, 2, 1, 0, 2);
    holes(bench, 4, 3, 1, 2, 0, 0);
    holes(bench, 4, 10, 3, 4, 0, 0, 0, 0);
    holes(bench, 2, 3, 0, 2, 1, 1);
  }

  @Says(promise = 20, words = "the longest row (round) of holes that are not empty.")
  static void promise20_theLongestRowRound(Bench bench) {
    holes(bench, 16, 4, 15, 2, 0, 2, 3, 15);
    holes(bench, 10, 6, 8, 3, 1, 3, 4, 6, 7, 8);
    holes(bench, 6, 4, 1, 4, 4, 5, 0, 1);
    holes(bench, 6, 4, 2, 4, 5, 0, 1, 2);
    holes(bench, 16, 14, 12, 14, 15, 0, 1, 2, 3, 4, 5, 6, 7, 8, 9, 10, 11, 12);
    holes(bench, 3, 3, 2, 3, 0, 1, 2);
    holes(bench, 16, 1, 7, 1, 7);
  }

  @Says(promise = 20, words = "PIGEONHOLES of m (2 to 16) for n letters (1 to m) by the first n bytes of the tape (empty then)")
  static void promise20_byTheFirstNBytes(Bench bench) {
    BureauCrown x = Bench.fed(3, 3, 3, 3, 3);
    empty(bench, x, "two of five", x.pigeonholes(5, 2, 0), 3);
    Bench.feedBytes(x, 3, 3, 3, 3, 3);
    empty(bench, x, "five of five", x.pigeonholes(5, 5, 0), 15);
    Bench.feedBytes(x, 1, 1);
    empty(bench, x, "two of two", x.pigeonholes(2, 2, 0), 3);
    Bench.feedBytes(x, 1, 1);
    empty(bench, x, "one of sixteen", x.pigeonholes(16, 1, 0), 1);
  }

  @Says(promise = 20, words = "what 0 holes looked at, 1 where the last lies, 2 the longest row;")
  static void promise20_whats(Bench bench) {
    holes(bench, 8, 5, 6, 3, 4, 4, 5);
  }

  @Says(promise = 20, words = "NONE: no such ones, it has not so many (the tape stays)")
  static void promise20_noSuchOnes(Bench bench) {
    BureauCrown x = Bench.fed(3, 8, 13);
    int[] ms = {1, 0, -1, 17, Integer.MAX_VALUE, Integer.MIN_VALUE};
    for (int m : ms) {
      stays(bench, x, "pigeonholes(" + m + ", 1, 0)", x.pigeonholes(m, 1, 0), 20);
    }
    int[] ns = {0, -1, 6, 16, Integer.MAX_VALUE, Integer.MIN_VALUE};
    for (int n : ns) {
      stays(bench, x, "pigeonholes(5, " + n + ", 0)", x.pigeonholes(5, n, 0), 20);
    }
    int[] whats = {-1, 3, Integer.MAX_VALUE, Integer.MIN_VALUE};
    for (int what : whats) {
      stays(bench, x, "pigeonholes(5, 3, " + what + ")", x.pigeonholes(5, 3, what), 20);
    }
    empty(bench, x, "pigeonholes(5, 3, 0)", x.pigeonholes(5, 3, 0), 6);
    stays(bench, x, "pigeonholes(5, 1, 0) of an empty tape", x.pigeonholes(5, 1, 0), 0);
  }

  // ---- promise 21

  @Says(promise = 21, words = "PLANKED: a floor of 1 to 8 by 1 to 8: in how many ways it can be laid with planks of two by one.")
  static void promise21_ways(Bench bench) {
    int[][] due = {
      {0, 1, 0, 1, 0, 1, 0, 1},
      {1, 2, 3, 5, 8, 13, 21, 34},
      {0, 3, 0, 11, 0, 41, 0, 153},
      {1, 5, 11, 36, 95, 281, 781, 2245},
      {0, 8, 0, 95, 0, 1183, 0, 14824},
      {1, 13, 41, 281, 1183, 6728, 31529, 167089},
      {0, 21, 0, 781, 0, 31529, 0, 1292697},
      {1, 34, 153, 2245, 14824, 167089, 1292697, 12988816},
    };
    BureauCrown x = new BureauCrown();
    for (int wide = 1; wide <= 8; wide++) {
      for (int along = 1; along <= 8; along++) {
        bench.due("planked(" + wide + ", " + along + ")", x.planked(wide, along), due[wide - 1][along - 1]);
      }
    }
  }

  @Says(promise = 21, words = "PLANKED, wide by long (1 to 8 each): ways;")
  static void promise21_1To8Each(Bench bench) {
    BureauCrown x = new BureauCrown();
    bench.due("the least", x.planked(1, 1), 0);
    bench.due("the most", x.planked(8, 8), 12988816);
    bench.due("1 by 8", x.planked(1, 8), 1);
    bench.due("8 by 1", x.planked(8, 1), 1);
  }

  @Says(promise = 21, words = "NONE: no such ones")
  static void promise21_noSuchOnes(Bench bench) {
    BureauCrown x = new BureauCrown();
    int[] none = {0, -1, 9, Integer.MAX_VALUE, Integer.MIN_VALUE};
    for (int side : none) {
      bench.due("planked(" + side + ", 2)", x.planked(side, 2), -1);
      bench.due("planked(2, " + side + ")", x.planked(2, side), -1);
    }
  }

  // ---- promise 22

  private static void unions(Bench bench, int n, int kingdoms, int largest, int nothingNew, int... bytes) {
    int[] due = {kingdoms, largest, nothingNew};
    int m = bytes.length / 2;
    for (int what = 0; what < 3; what++) {
      BureauCrown x = Bench.fed(bytes);
      empty(bench, x, "unions(" + n + ", " + m + ", " + what + ")", x.unions(n, m, what), due[what]);
    }
  }

  @Says(promise = 22, words = "UNIONS: 2 to 16 pieces, 1 to 20 twos that are joined:")
  static void promise22_piecesAndTwos(Bench bench) {
    unions(bench, 2, 1, 2, 0, 0, 1);
    unions(bench, 16, 15, 2, 0, 0, 15);
    int[] all = new int[40];
    for (int k = 0; k < 15; k++) {
      all[2 * k] = k + 1;
      all[2 * k + 1] = k;
    }
    unions(bench, 16, 1, 16, 5, all);
    unions(bench, 2, 2, 1, 20, new int[40]);
  }

  @Says(promise = 22, words = "how many kingdoms there are; how many pieces the largest has; how many of the twos joined nothing new.")
  static void promise22_answers(Bench bench) {
    unions(bench, 4, 2, 3, 1, 0, 1, 1, 2, 0, 2);
    unions(bench, 4, 4, 1, 1, 3, 3);
    unions(bench, 4, 3, 2, 1, 0, 1, 1, 0);
    unions(bench, 8, 4, 4, 0, 0, 1, 2, 3, 4, 5, 5, 0);
    unions(bench, 8, 4, 5, 0, 7, 6, 5, 4, 6, 5, 4, 3);
    unions(bench, 6, 3, 2, 0, 0, 5, 1, 4, 2, 3);
  }

  @Says(promise = 22, words = "UNIONS of n pieces (2 to 16) by the first 2 m bytes of the tape (m 1 to 20; empty then)")
  static void promise22_byTheFirst2mBytes(Bench bench) {
    BureauCrown x = Bench.fed(0, 1, 1, 2, 99, 99);
    empty(bench, x, "two of them", x.unions(4, 2, 0), 2);
    Bench.feedBytes(x, 0, 1, 1, 2, 99, 99);
    empty(bench, x, "one of them", x.unions(4, 1, 0), 3);
    Bench.feedBytes(x, 0, 1, 1, 2, 99, 99);
    empty(bench, x, "three of them", x.unions(4, 3, 0), -3);
  }

  @Says(promise = 22, words = "what 0 kingdoms, 1 pieces of the largest, 2 twos that joined nothing new;")
  static void promise22_whats(Bench bench) {
    unions(bench, 9, 6, 4, 2, 0, 1, 1, 2, 2, 0, 2, 3, 3, 3);
  }

  @Says(promise = 22, words = "-3: a piece there is not")
  static void promise22_aPieceThereIsNot(Bench bench) {
    unions(bench, 4, -3, -3, -3, 0, 4);
    unions(bench, 4, -3, -3, -3, 4, 0);
    unions(bench, 4, -3, -3, -3, 0, 1, 1, 2, 255, 0);
    unions(bench, 16, -3, -3, -3, 16, 0);
    unions(bench, 16, 15, 2, 0, 15, 0);
    unions(bench, 2, -3, -3, -3, 0, 1, 0, 2);
  }

  @Says(promise = 22, words = "NONE: no such ones, it has not so many (the tape stays)")
  static void promise22_noSuchOnes(Bench bench) {
    BureauCrown x = Bench.fed(0, 1, 0, 1, 0, 1, 0, 1, 0, 1, 0, 1, 0, 1, 0, 1, 0, 1, 0, 1);
    int[] ns = {1, 0, -1, 17, Integer.MAX_VALUE, Integer.MIN_VALUE};
    for (int n : ns) {
      stays(bench, x, "unions(" + n + ", 1, 0)", x.unions(n, 1, 0), 20);
    }
    int[] ms = {0, -1, 11, 20, 21, Integer.MAX_VALUE, Integer.MIN_VALUE};
    for (int m : ms) {
      stays(bench, x, "unions(4, " + m + ", 0) of 20 bytes", x.unions(4, m, 0), 20);
    }
    int[] whats = {-1, 3, Integer.MAX_VALUE, Integer.MIN_VALUE};
    for (int what : whats) {
      stays(bench, x, "unions(4, 1, " + what + ")", x.unions(4, 1, what), 20);
    }
    empty(bench, x, "unions(4, 10, 2) of 20 bytes", x.unions(4, 10, 2), 9);
    stays(bench, x, "unions(4, 1, 0) of an empty tape", x.unions(4, 1, 0), 0);
    Bench.feedBytes(x, new int[60]);
    stays(bench, x, "unions(4, 21, 0) of 60 bytes", x.unions(4, 21, 0), 60);
  }

  // ---- promise 23

  /** The whole line, one after the other, and then that there are no more. */
  private static void line(Bench bench, int[] bytes, int... due) {
    int n = bytes.length - 2;
    for (int i = 0; i <= due.length && i < 16; i++) {
      BureauCrown x = Bench.fed(bytes);
      empty(bench, x, "heirs(" + n + ", " + i + ")", x.heirs(n, i), i < due.length ? due[i] : -4);
    }
  }

  @Says(promise = 23, words = "HEIRS: 1 to 16 pieces, each but the first from a lower one (a byte)")
  static void promise23_1To16Pieces(Bench bench) {
    line(bench, new int[] {0, 0, 0}, 0);
    line(bench, new int[18], 0, 1, 2, 3, 4, 5, 6, 7, 8, 9, 10, 11, 12, 13, 14, 15);
    line(bench, new int[] {0, 0, 0, 0, 1, 2, 3, 4, 5, 6, 7, 8, 9, 10, 11, 12, 13, 14},
        0, 1, 2, 3, 4, 5, 6, 7, 8, 9, 10, 11, 12, 13, 14, 15);
  }

  @Says(promise = 23, words = "some are broken (bits, two bytes ahead: 8 to 15, 0 to 7):")
  static void promise23_someAreBroken(Bench bench) {
    int[] row = {0, 0, 0, 0, 1, 2, 3, 4, 5, 6, 7, 8, 9, 10, 11, 12, 13, 14};
    row[0] = 0b10000001;
    row[1] = 0b10000001;
    line(bench, row, 1, 2, 3, 4, 5, 6, 9, 10, 11, 12, 13, 14);
    row[0] = 255;
    row[1] = 0;
    line(bench, row, 0, 1, 2, 3, 4, 5, 6, 7);
    row[0] = 0;
    row[1] = 255;
    line(bench, row, 8, 9, 10, 11, 12, 13, 14, 15);
    row[0] = 255;
    line(bench, row);
    // Broken ones that there are not are no matter.
    line(bench, new int[] {255, 254, 0}, 0);
  }

  @Says(promise = 23, words = "the line: one, then those from it by their order, each with its own line, ahead of the next;")
  static void promise23_theLine(Bench bench) {
    // 0 has 1 and 2; 1 has 3 and 5; 2 has 4.
    line(bench, new int[] {0, 0, 0, 0, 0, 1, 2, 1}, 0, 1, 3, 5, 2, 4);
    line(bench, new int[] {0, 0, 0, 0, 0, 1}, 0, 1, 3, 2);
    line(bench, new int[] {0, 0, 0, 0, 0, 2, 1, 3, 0, 1}, 0, 1, 4, 7, 2, 3, 5, 6);
    // Those from one that is broken stay in the line.
    line(bench, new int[] {0, 0b000010, 0, 0, 0, 1, 2, 1}, 0, 3, 5, 2, 4);
  }

  @Says(promise = 23, words = "the as manieth whole one in the line of the first (0 on).")
  static void promise23_theAsManiethWholeOne(Bench bench) {
    line(bench, new int[] {0, 0b000011, 0, 0, 0, 1}, 3, 2);
    line(bench, new int[] {0, 0b000001, 0, 0, 0, 1}, 1, 3, 2);
  }

  @Says(promise = 23, words = "HEIRS by the first n + 2 bytes of the tape (broken: high, low; then from whom, the first one's not asked; n 1 to 16; empty then):")
  static void promise23_byTheFirstNAnd2Bytes(Bench bench) {
    BureauCrown x = Bench.fed(0, 0, 255, 0, 99, 99);
    empty(bench, x, "the first one's is not asked", x.heirs(1, 0), 0);
    Bench.feedBytes(x, 0, 0, 255, 0, 99, 99);
    empty(bench, x, "what is behind is not asked", x.heirs(2, 1), 1);
    Bench.feedBytes(x, 0, 0, 255, 0, 99, 99);
    empty(bench, x, "the next is", x.heirs(3, 1), -3);
    Bench.feedBytes(x, 0, 0, 0, 0, 0, 1, 1);
    empty(bench, x, "no heir comes from what is behind", x.heirs(3, 2), 2);
    Bench.feedBytes(x, 0, 0, 0, 0, 0, 1, 1);
    empty(bench, x, "nor one more", x.heirs(3, 3), -4);
    Bench.feedBytes(x, 0, 1, 7);
    empty(bench, x, "low stands behind high", x.heirs(1, 0), -4);
    Bench.feedBytes(x, 1, 0, 7);
    empty(bench, x, "high stands ahead", x.heirs(1, 0), 0);
  }

  @Says(promise = 23, words = "the as manieth (i, 0 to 15): which piece; -4: there are not so many;")
  static void promise23_notSoMany(Bench bench) {
    BureauCrown x = Bench.fed(new int[18]);
    empty(bench, x, "heirs(16, 15)", x.heirs(16, 15), 15);
    Bench.feedBytes(x, new int[18]);
    empty(bench, x, "heirs(15, 15)", x.heirs(15, 15), -4);
    Bench.feedBytes(x, new int[18]);
    empty(bench, x, "heirs(1, 1)", x.heirs(1, 1), -4);
    Bench.feedBytes(x, 0, 2, 0, 0);
    empty(bench, x, "one of two is broken", x.heirs(2, 1), -4);
  }

  @Says(promise = 23, words = "-3: one from no lower one;")
  static void promise23_fromNoLowerOne(Bench bench) {
    BureauCrown x = Bench.fed(0, 0, 0, 1);
    empty(bench, x, "from itself", x.heirs(2, 0), -3);
    Bench.feedBytes(x, 0, 0, 0, 0, 255);
    empty(bench, x, "from one there is not", x.heirs(3, 0), -3);
    Bench.feedBytes(x, 0, 0, 0, 2, 0);
    empty(bench, x, "from a higher one", x.heirs(3, 0), -3);
    int[] last = new int[18];
    last[17] = 15;
    Bench.feedBytes(x, last);
    empty(bench, x, "the last from itself", x.heirs(16, 0), -3);
    last[17] = 14;
    Bench.feedBytes(x, last);
    empty(bench, x, "the last from the one ahead", x.heirs(16, 15), 15);
    Bench.feedBytes(x, 0, 0, 0, 1);
    empty(bench, x, "though there are not so many", x.heirs(2, 15), -3);
  }

  @Says(promise = 23, words = "NONE: no such ones, it has not so many (the tape stays)")
  static void promise23_noSuchOnes(Bench bench) {
    BureauCrown x = Bench.fed(0, 0, 0, 0, 0, 1);
    int[] ns = {0, -1, -2, 17, 18, Integer.MAX_VALUE, Integer.MIN_VALUE};
    for (int n : ns) {
      stays(bench, x, "heirs(" + n + ", 0)", x.heirs(n, 0), 20);
    }
    int[] is = {-1, 16, Integer.MAX_VALUE, Integer.MIN_VALUE};
    for (int i : is) {
      stays(bench, x, "heirs(4, " + i + ")", x.heirs(4, i), 20);
    }
    empty(bench, x, "heirs(4, 2)", x.heirs(4, 2), 3);
    stays(bench, x, "heirs(1, 0) of an empty tape", x.heirs(1, 0), 0);
  }

  // ---- promise 24

  private static void heard(Bench bench, int[] bytes, int waits, int... ends) {
    int n = bytes.length / 2;
    for (int what = 0; what < n; what++) {
      BureauCrown x = Bench.fed(bytes);
      empty(bench, x, "heard(" + n + ", " + what + ")", x.heard(n, what), ends[what]);
    }
    BureauCrown x = Bench.fed(bytes);
    empty(bench, x, "heard(" + n + ", 100)", x.heard(n, 100), waits);
  }

  @Says(promise = 24, words = "HEARD: 1 to 10 ambassadors (rank, how long: bytes), by rank, the highest first, of like ones by their order:")
  static void promise24_byRank(Bench bench) {
    heard(bench, new int[] {5, 10, 9, 200, 1, 7, 5, 20}, 200 + 0 + 230 + 210, 210, 200, 237, 230);
    heard(bench, new int[] {0, 3, 255, 4, 127, 5, 128, 6}, 15 + 0 + 10 + 4, 18, 4, 15, 10);
    heard(bench, new int[] {7, 1, 7, 2, 7, 3}, 0 + 1 + 3, 1, 3, 6);
    heard(bench, new int[] {0, 0}, 0, 0);
    heard(bench, new int[] {9, 255, 9, 255, 9, 255, 9, 255, 9, 255, 9, 255, 9, 255, 9, 255, 9, 255, 9, 255},
        45 * 255, 255, 510, 765, 1020, 1275, 1530, 1785, 2040, 2295, 2550);
  }

  @Says(promise = 24, words = "the minute at which one has been heard to the end; how long all wait in sum (till they begin).")
  static void promise24_whenAndHowLong(Bench bench) {
    heard(bench, new int[] {1, 9}, 0, 9);
    heard(bench, new int[] {1, 9, 2, 5}, 5, 14, 5);
    heard(bench, new int[] {1, 9, 2, 0}, 0, 9, 0);
  }

  @Says(promise = 24, words = "HEARD by the first 2 n bytes of the tape (rank, how long; n 1 to 10; empty then)")
  static void promise24_byTheFirst2nBytes(Bench bench) {
    BureauCrown x = Bench.fed(1, 9, 2, 5, 3, 7);
    empty(bench, x, "one of three", x.heard(1, 0), 9);
    Bench.feedBytes(x, 1, 9, 2, 5, 3, 7);
    empty(bench, x, "two of three", x.heard(2, 0), 14);
    Bench.feedBytes(x, 1, 9, 2, 5, 3, 7);
    empty(bench, x, "three of three", x.heard(3, 0), 21);
  }

  @Says(promise = 24, words = "what 100 how long all wait, else when what has been heard;")
  static void promise24_whats(Bench bench) {
    heard(bench, new int[] {3, 1, 2, 1, 1, 1}, 0 + 1 + 2, 1, 2, 3);
  }

  @Says(promise = 24, words = "NONE: no such ones, it has not so many (the tape stays)")
  static void promise24_noSuchOnes(Bench bench) {
    BureauCrown x = new BureauCrown();
    stays(bench, x, "heard(1, 0) of an empty tape", x.heard(1, 0), 0);
    Bench.feedBytes(x, new int[40]);
    int[] ns = {0, -1, 11, Integer.MAX_VALUE, Integer.MIN_VALUE};
    for (int n : ns) {
      stays(bench, x, "heard(" + n + ", 0)", x.heard(n, 0), 40);
      stays(bench, x, "heard(" + n + ", 100)", x.heard(n, 100), 40);
    }
    int[] whats = {-1, 4, 9, 10, 99, 101, Integer.MAX_VALUE, Integer.MIN_VALUE};
    for (int what : whats) {
      stays(bench, x, "heard(4, " + what + ")", x.heard(4, what), 40);
    }
    stays(bench, x, "heard(10, 10)", x.heard(10, 10), 40);
    empty(bench, x, "heard(10, 9)", x.heard(10, 9), 0);
  }

  // ---- promise 25

  @Says(promise = 24, words = "HEARD by the first 2 n bytes of the tape (rank, how long; n 1 to 10; empty then)")
  static void promise24_nothingIsLeftOfOtherReckonings(Bench bench) {
    BureauCrown x = new BureauCrown();
    for (int k = 0; k < 3; k++) {
      Bench.feedBytes(x, 9, 9, 8, 8, 7, 7, 6, 6, 5, 5, 4, 4, 3, 3, 2, 2, 1, 1, 0, 0);
      bench.due("nest(10)", x.nest(10), 10);
      Bench.feedBytes(x, 1, 2);
      bench.due("unions", x.unions(3, 1, 1), 2);
      Bench.feedBytes(x, 9, 8, 7);
      bench.due("dusted(3)", x.dusted(3), 2);
      Bench.feedBytes(x, 0, 1);
      bench.due("unions", x.unions(2, 1, 0), 1);
      Bench.feedBytes(x, 5, 5, 5);
      bench.due("pigeonholes", x.pigeonholes(4, 3, 0), 6);
      Bench.feedBytes(x, 5);
      bench.due("pigeonholes", x.pigeonholes(4, 1, 2), 1);
      Bench.feedBytes(x, 0, 0, 0, 0, 0);
      bench.due("heirs", x.heirs(3, 2), 2);
      Bench.feedBytes(x, 4, 1, 5, 1);
      bench.due("nest(2)", x.nest(2), 1);
      bench.due("planked", x.planked(2, 3), 3);
      bench.due("planked", x.planked(3, 3), 0);
      Bench.feedBytes(x, 4, 1, 5, 1);
      bench.due("heard", x.heard(2, 0), 2);
      Bench.feedBytes(x, 2, 0);
      bench.due("unions of 2 and 0", x.unions(3, 1, 1), 2);
      Bench.feedBytes(x, 0, 0);
      bench.due("unions of 0 and itself", x.unions(2, 1, 0), 2);
    }
  }

  @Says(promise = 25, words = "TICKS: a clock strikes the hour (1 to 12) at each full one and once at each half:")
  static void promise25_strokes(Bench bench) {
    BureauCrown x = new BureauCrown();
    for (int minute = 0; minute < 1440; minute += 30) {
      int hour = minute / 60 % 12 == 0 ? 12 : minute / 60 % 12;
      bench.due("ticks at " + minute, x.ticks(minute, minute), minute % 60 == 0 ? hour : 1);
    }
    bench.due("between the hour and the half", x.ticks(1, 29), 0);
    bench.due("between the half and the hour", x.ticks(31, 59), 0);
    bench.due("the whole day", x.ticks(0, 1439), 180);
  }

  @Says(promise = 25, words = "strokes from one minute of a day (0 to 1439) on to another one no earlier (both with;")
  static void promise25_bothWith(Bench bench) {
    BureauCrown x = new BureauCrown();
    bench.due("both with", x.ticks(60, 90), 2);
    bench.due("without the first", x.ticks(61, 90), 1);
    bench.due("without the last", x.ticks(60, 89), 1);
    bench.due("without both", x.ticks(61, 89), 0);
    bench.due("the first minute", x.ticks(0, 0), 12);
    bench.due("the last minute", x.ticks(1439, 1439), 0);
    bench.due("the last half", x.ticks(1410, 1439), 1);
    bench.due("from 11 to 12", x.ticks(660, 720), 11 + 1 + 12);
    bench.due("one no earlier", x.ticks(61, 60), -1);
  }

  @Says(promise = 25, words = "0 and 720 are twelve).")
  static void promise25_0And720AreTwelve(Bench bench) {
    BureauCrown x = new BureauCrown();
    bench.due("0", x.ticks(0, 0), 12);
    bench.due("720", x.ticks(720, 720), 12);
    bench.due("660", x.ticks(660, 660), 11);
    bench.due("780", x.ticks(780, 780), 1);
    bench.due("1380", x.ticks(1380, 1380), 11);
  }

  @Says(promise = 25, words = "TICKS from a minute to a minute: strokes;")
  static void promise25_fromAMinuteToAMinute(Bench bench) {
    BureauCrown x = new BureauCrown();
    bench.due("0 to 60", x.ticks(0, 60), 12 + 1 + 1);
    bench.due("600 to 700", x.ticks(600, 700), 10 + 1 + 11 + 1);
  }

  @Says(promise = 25, words = "NONE: no such ones")
  static void promise25_noSuchOnes(Bench bench) {
    BureauCrown x = new BureauCrown();
    int[][] none = {{-1, 0}, {-1, -1}, {0, 1440}, {1440, 1440}, {5, 4}, {1439, 0}, {0, -1},
      {0, Integer.MAX_VALUE}, {Integer.MIN_VALUE, 0}, {Integer.MIN_VALUE, Integer.MAX_VALUE},
      {Integer.MAX_VALUE, Integer.MAX_VALUE}, {Integer.MAX_VALUE, Integer.MIN_VALUE}};
    for (int[] one : none) {
      bench.due("ticks(" + one[0] + ", " + one[1] + ")", x.ticks(one[0], one[1]), -1);
    }
  }
}
