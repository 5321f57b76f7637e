/** Promises 2, 8, 9, 12 to 14 and 26 to 30: what lies where, what is told of it, what is kept and undone. */
final class PaperSentences {
  private static final String PAPERS_24 = Bench.times(24, "A1", ";");

  /** A few calls of a hundred days each. */
  private static void go(BureauCrown x, int days) {
    for (int left = days; left > 0; left -= 100) {
      x.days(Math.min(left, 100));
    }
  }

  // ---- promise 2

  @Says(promise = 2, words = "A PAPER is taken OUT (not READ, DAYS 0 then;")
  static void promise02_takenOut(Bench bench) {
    BureauCrown x = Bench.with("a9;A4>a;B3>a", "r10(1=1)");
    x.days(5);
    bench.due("READ", x.paperIs(0, 3), 1);
    bench.due("put(0, -1)", x.put(0, -1), true);
    bench.due("OUT", x.paperIs(0, 2), -2);
    bench.due("not READ", x.paperIs(0, 3), 0);
    bench.due("DAYS 0", x.paperIs(0, 4), 0);
    bench.due("FULL", x.drawerIs(0, 1), 3);
    bench.due("PAPERS IN it", x.drawerIs(0, 2), 2);
    bench.due("the other stays READ", x.paperIs(1, 3), 1);
    bench.due("the DAYS of the other", x.paperIs(1, 4), 5);
    bench.due("put(0, 0)", x.put(0, 0), true);
    bench.due("put back it is not READ", x.paperIs(0, 3), 0);
  }

  @Says(promise = 2, words = "one that is OUT, too), DRAWER NONE (-1)")
  static void promise02_oneThatIsOutToo(Bench bench) {
    BureauCrown x = Bench.with("a9;A4;B3>a");
    String before = Bench.look(x);
    bench.due("put(0, -1)", x.put(0, -1), true);
    bench.due("put(0, NONE) again", x.put(0, BureauCrown.NONE), true);
    bench.due("nothing is changed", Bench.look(x), before);
    bench.due("put(0, -2)", x.put(0, -2), false);
  }

  @Says(promise = 2, words = "or put IN a told DRAWER that has ROOM for it")
  static void promise02_putInADrawerThatHasRoom(Bench bench) {
    BureauCrown x = Bench.with("a4;b3;l5;A4;B1");
    bench.due("ROOM to the last", x.put(0, 0), true);
    bench.due("where", x.paperIs(0, 2), 0);
    bench.due("FULL", x.drawerIs(0, 1), 4);
    bench.due("one less than it needs", x.put(0, 1), false);
    bench.due("where it was", x.paperIs(0, 2), 0);
    bench.due("the full one", x.put(1, 0), false);
    bench.due("the last DRAWER", x.put(0, 11), true);
    bench.due("the ROOM it left is free", x.put(1, 0), true);
    bench.due("FULL of a", x.drawerIs(0, 1), 1);
    bench.due("FULL of l", x.drawerIs(11, 1), 4);
  }

  @Says(promise = 2, words = "(it stays as READ as it was, DAYS 0;")
  static void promise02_itStaysAsReadAsItWas(Bench bench) {
    BureauCrown x = Bench.with("a9;b9;A4>a;B3>a;C1", "r10(p=0)");
    x.days(5);
    bench.due("put(0, 1)", x.put(0, 1), true);
    bench.due("READ stays", x.paperIs(0, 3), 1);
    bench.due("DAYS 0", x.paperIs(0, 4), 0);
    bench.due("put(1, 1)", x.put(1, 1), true);
    bench.due("not READ stays", x.paperIs(1, 3), 0);
    bench.due("DAYS 0", x.paperIs(1, 4), 0);
    bench.due("put(2, 1)", x.put(2, 1), true);
    bench.due("from OUT it is not READ", x.paperIs(2, 3), 0);
    bench.due("from OUT: DAYS", x.paperIs(2, 4), 0);
  }

  @Says(promise = 2, words = "IN that one already: ROOM is not asked, DAYS stay")
  static void promise02_inThatOneAlready(Bench bench) {
    BureauCrown x = Bench.with("a4;A4>a", "r10(1=1)");
    x.days(5);
    bench.due("put(0, 0)", x.put(0, 0), true);
    bench.due("DAYS stay", x.paperIs(0, 4), 5);
    bench.due("READ stays", x.paperIs(0, 3), 1);
    bench.due("FULL", x.drawerIs(0, 1), 4);
    bench.due("PAPERS IN it", x.drawerIs(0, 2), 1);
  }

  @Says(promise = 2, words = "true; false: no such ones")
  static void promise02_noSuchOnes(Bench bench) {
    BureauCrown x = Bench.with("a9;c9;A4;B3>a");
    String before = Bench.look(x);
    int[] papers = {-1, 2, 23, 24, Integer.MAX_VALUE, Integer.MIN_VALUE};
    for (int p : papers) {
      bench.due("put(" + p + ", 0)", x.put(p, 0), false);
      bench.due("put(" + p + ", -1)", x.put(p, -1), false);
    }
    int[] drawers = {-2, 1, 11, 12, Integer.MAX_VALUE, Integer.MIN_VALUE};
    for (int d : drawers) {
      bench.due("put(0, " + d + ")", x.put(0, d), false);
      bench.due("put(1, " + d + ")", x.put(1, d), false);
    }
    bench.due("nothing is changed", Bench.look(x), before);
    bench.due("without a CABINET", new BureauCrown().put(0, -1), false);
  }

  @Says(promise = 2, words = "no ROOM")
  static void promise02_noRoom(Bench bench) {
    BureauCrown x = Bench.with("a9;b9;A4>a;B5>b;C5>a;D1", "r10(1=1)");
    x.days(2);
    String before = Bench.look(x);
    bench.due("one OUT", x.put(3, 0), false);
    bench.due("one IN another", x.put(1, 0), false);
    bench.due("nothing is changed", Bench.look(x), before);
  }

  // ---- promise 8

  @Says(promise = 8, words = "DRAWERS a to l (0 to 11): told or not")
  static void promise08_drawers0To11(Bench bench) {
    BureauCrown x = Bench.with("a1;l2;A1>a");
    bench.due("a", x.drawerIs(0, 0), 1);
    bench.due("l", x.drawerIs(11, 0), 2);
    for (int d = 1; d < 11; d++) {
      for (int what = 0; what < 3; what++) {
        bench.due("drawerIs(" + d + ", " + what + "), not told", x.drawerIs(d, what), -1);
      }
    }
  }

  @Says(promise = 8, words = "Of a told DRAWER, what 0 ROOM")
  static void promise08_what0(Bench bench) {
    BureauCrown x = Bench.with("c99;d1;A5>c");
    bench.due("the ROOM it has in all", x.drawerIs(2, 0), 99);
    bench.due("the least", x.drawerIs(3, 0), 1);
  }

  @Says(promise = 8, words = "1 FULL")
  static void promise08_what1(Bench bench) {
    BureauCrown x = Bench.with("c20;d9;A5>c;B9>c;C2>d;D1");
    bench.due("two", x.drawerIs(2, 1), 14);
    bench.due("one", x.drawerIs(3, 1), 2);
    x.put(2, -1);
    bench.due("none", x.drawerIs(3, 1), 0);
  }

  @Says(promise = 8, words = "FULL is what lies in a DRAWER by SIZES.")
  static void promise08_fullIsBySizes(Bench bench) {
    BureauCrown x = Bench.with("a99;" + Bench.times(11, "A9>a", ";"));
    bench.due("all 99", x.drawerIs(0, 1), 99);
    x.put(10, -1);
    bench.due("one less", x.drawerIs(0, 1), 90);
    x.put(10, 0);
    bench.due("all again", x.drawerIs(0, 1), 99);
  }

  @Says(promise = 8, words = "2 PAPERS IN it (bits)")
  static void promise08_what2(Bench bench) {
    BureauCrown x = Bench.with("a99;b9;A1>a;B1>b;" + Bench.times(21, "A1", ";") + ";C1>a");
    bench.due("0 and 23", x.drawerIs(0, 2), 1 | 1 << 23);
    bench.due("1", x.drawerIs(1, 2), 2);
    x.put(1, -1);
    bench.due("none", x.drawerIs(1, 2), 0);
  }

  @Says(promise = 8, words = "NONE for others")
  static void promise08_noneForOthers(Bench bench) {
    BureauCrown x = Bench.with("a9;c9;A1>a");
    int[] drawers = {-1, 1, 3, 12, Integer.MAX_VALUE, Integer.MIN_VALUE};
    for (int d : drawers) {
      for (int what = 0; what < 3; what++) {
        bench.due("drawerIs(" + d + ", " + what + ")", x.drawerIs(d, what), -1);
      }
    }
    int[] whats = {-1, 3, Integer.MAX_VALUE, Integer.MIN_VALUE};
    for (int what : whats) {
      bench.due("drawerIs(0, " + what + ")", x.drawerIs(0, what), -1);
    }
  }

  // ---- promise 9

  @Says(promise = 9, words = "PAPERS 0 to 23 (as many as THE CABINET has)")
  static void promise09_papers0To23(Bench bench) {
    BureauCrown x = Bench.with(Bench.times(23, "A1", ";") + ";P9");
    bench.due("the first", x.paperIs(0, 1), 1);
    bench.due("the last", x.paperIs(23, 1), 9);
    bench.due("no 24", x.paperIs(24, 1), -1);
    x = Bench.with("A1;B2");
    bench.due("1", x.paperIs(1, 1), 2);
    bench.due("no 2", x.paperIs(2, 1), -1);
    x = Bench.with("a9");
    bench.due("no 0", x.paperIs(0, 1), -1);
  }

  @Says(promise = 9, words = "each of a SUBJECT A to P (0 to 15)")
  static void promise09_subjectAToP(Bench bench) {
    BureauCrown x = Bench.with("A1;P1;H1");
    bench.due("A", x.paperIs(0, 0), 0);
    bench.due("P", x.paperIs(1, 0), 15);
    bench.due("H", x.paperIs(2, 0), 7);
  }

  @Says(promise = 9, words = "a SIZE (1 to 9)")
  static void promise09_size1To9(Bench bench) {
    BureauCrown x = Bench.with("A1;A2;A3;A4;A5;A6;A7;A8;A9");
    for (int p = 0; p < 9; p++) {
      bench.due("SIZE of " + p, x.paperIs(p, 1), p + 1);
    }
  }

  @Says(promise = 9, words = "Of a PAPER, what 0 SUBJECT, 1 SIZE")
  static void promise09_what0And1(Bench bench) {
    BureauCrown x = Bench.with("a9;C4;F7>a");
    bench.due("SUBJECT of one OUT", x.paperIs(0, 0), 2);
    bench.due("SIZE of one OUT", x.paperIs(0, 1), 4);
    bench.due("SUBJECT of one IN", x.paperIs(1, 0), 5);
    bench.due("SIZE of one IN", x.paperIs(1, 1), 7);
  }

  @Says(promise = 9, words = "2 the DRAWER (OUT: -2)")
  static void promise09_what2(Bench bench) {
    BureauCrown x = Bench.with("a9;l9;C4;F7>a;G1>l");
    bench.due("OUT", x.paperIs(0, 2), -2);
    bench.due("IN a", x.paperIs(1, 2), 0);
    bench.due("IN l", x.paperIs(2, 2), 11);
  }

  @Says(promise = 9, words = "OUT (at first) or IN a DRAWER")
  static void promise09_outAtFirst(Bench bench) {
    BureauCrown x = Bench.with("a9;A1;B1>a");
    bench.due("OUT at first", x.paperIs(0, 2), -2);
    bench.due("IN if it is told so", x.paperIs(1, 2), 0);
    x.put(0, 0);
    bench.due("IN", x.paperIs(0, 2), 0);
    x.put(0, -1);
    bench.due("OUT again", x.paperIs(0, 2), -2);
  }

  @Says(promise = 9, words = "3 READ (1, 0)")
  static void promise09_what3(Bench bench) {
    BureauCrown x = Bench.with("a9;A1>a;B1>a;C1", "r10(p=0)");
    bench.due("not READ yet", x.paperIs(0, 3), 0);
    x.days(1);
    bench.due("READ", x.paperIs(0, 3), 1);
    bench.due("one that is not", x.paperIs(1, 3), 0);
    bench.due("one that is OUT", x.paperIs(2, 3), 0);
  }

  @Says(promise = 9, words = "READ or not, DAYS (how long it has been IN one;")
  static void promise09_readOrNotDays(Bench bench) {
    BureauCrown x = Bench.with("a9;b9;A1>a;B1;C1>a", "r10(t=1)");
    x.days(1);
    bench.due("DAYS 1", x.paperIs(0, 4), 1);
    bench.due("not READ", x.paperIs(0, 3), 0);
    x.days(1);
    bench.due("DAYS 2", x.paperIs(0, 4), 2);
    bench.due("READ", x.paperIs(0, 3), 1);
    bench.due("OUT: 0", x.paperIs(1, 4), 0);
    x.put(0, 1);
    x.days(3);
    bench.due("IN another since", x.paperIs(0, 4), 3);
    bench.due("still IN the same", x.paperIs(2, 4), 5);
  }

  @Says(promise = 9, words = "9999 at most).")
  static void promise09_days9999AtMost(Bench bench) {
    // What is KEPT has no PAPERS: behind undo THE DAY is 0 again, and PAPER 0 is as it was.
    BureauCrown x = new BureauCrown();
    x.keep();
    Bench.cabinet(x, "a9;A1>a;B1");
    go(x, 9999);
    bench.due("DAYS", x.paperIs(0, 4), 9999);
    bench.due("undo", x.undo(), true);
    bench.due("THE DAY", x.count(0), 0);
    bench.due("DAYS stay", x.paperIs(0, 4), 9999);
    x.put(1, 0);
    x.days(1);
    bench.due("a DAY went by", x.count(0), 1);
    bench.due("DAYS of another", x.paperIs(1, 4), 1);
    bench.due("9999 at most", x.paperIs(0, 4), 9999);
    Bench.rule(x, "r10(a=9999)");
    bench.due("so the LAW has it, too", x.tried(5, 3), 1);
  }

  @Says(promise = 9, words = "4 DAYS")
  static void promise09_what4(Bench bench) {
    BureauCrown x = Bench.with("a9;A1>a;B1");
    bench.due("0 at first", x.paperIs(0, 4), 0);
    x.days(100);
    bench.due("100", x.paperIs(0, 4), 100);
    bench.due("of one OUT", x.paperIs(1, 4), 0);
  }

  @Says(promise = 9, words = "NONE for others")
  static void promise09_noneForOthers(Bench bench) {
    BureauCrown x = Bench.with("a9;A1>a;B1");
    int[] papers = {-1, 2, 23, 24, Integer.MAX_VALUE, Integer.MIN_VALUE};
    for (int p : papers) {
      for (int what = 0; what < 5; what++) {
        bench.due("paperIs(" + p + ", " + what + ")", x.paperIs(p, what), -1);
      }
    }
    int[] whats = {-1, 5, Integer.MAX_VALUE, Integer.MIN_VALUE};
    for (int what : whats) {
      bench.due("paperIs(0, " + what + ")", x.paperIs(0, what), -1);
    }
  }

  // ---- promise 12

  @Says(promise = 12, words = "FREE, what 0 how much, 1 which")
  static void promise12_howMuchAndWhich(Bench bench) {
    BureauCrown x = Bench.with("b5;c7;l99;A4>c");
    bench.due("how much of the last", x.free(0), 99);
    bench.due("the last", x.free(1), 11);
    x = Bench.with("a9;b5;c7;A1>c");
    bench.due("how much of the first", x.free(0), 9);
    bench.due("the first", x.free(1), 0);
    x = Bench.with("b5;c7;A4>c");
    bench.due("how much is free, not ROOM", x.free(0), 5);
    bench.due("which", x.free(1), 1);
  }

  @Says(promise = 12, words = "FREE: ROOM free in the DRAWER with most (of like ones the lowest); which.")
  static void promise12_ofLikeOnesTheLowest(Bench bench) {
    BureauCrown x = Bench.with("d9;b5;c7;A4>d;B2>c");
    bench.due("how much", x.free(0), 5);
    bench.due("the lowest of b, c, d", x.free(1), 1);
    x = Bench.with("b5;c6;A5>b;B6>c");
    bench.due("all are full: how much", x.free(0), 0);
    bench.due("all are full: the lowest", x.free(1), 1);
  }

  @Says(promise = 12, words = "-2: no DRAWERS")
  static void promise12_noDrawers(Bench bench) {
    BureauCrown x = new BureauCrown();
    bench.due("new: free(0)", x.free(0), -2);
    bench.due("new: free(1)", x.free(1), -2);
    x = Bench.with("A1;B2");
    bench.due("PAPERS alone: free(0)", x.free(0), -2);
    bench.due("PAPERS alone: free(1)", x.free(1), -2);
  }

  @Says(promise = 12, words = "NONE: no such what")
  static void promise12_noSuchWhat(Bench bench) {
    int[] whats = {-1, 2, Integer.MAX_VALUE, Integer.MIN_VALUE};
    for (int what : whats) {
      bench.due("free(" + what + ")", Bench.with("a9").free(what), -1);
      bench.due("free(" + what + ") without DRAWERS", new BureauCrown().free(what), -1);
    }
  }

  // ---- promise 13

  @Says(promise = 13, words = "OF A SUBJECT (0 to 15), what 0 how many, 1 SIZES of those IN")
  static void promise13_ofASubject(Bench bench) {
    BureauCrown x = Bench.with("a30;b9;A4>a;A2;P9>a;A3>b;P8");
    bench.due("A: how many", x.ofSubject(0, 0), 3);
    bench.due("A: SIZES IN", x.ofSubject(0, 1), 7);
    bench.due("P: how many", x.ofSubject(15, 0), 2);
    bench.due("P: SIZES IN", x.ofSubject(15, 1), 9);
    bench.due("B: how many", x.ofSubject(1, 0), 0);
    bench.due("B: SIZES IN", x.ofSubject(1, 1), 0);
  }

  @Says(promise = 13, words = "OF A SUBJECT: how many PAPERS; SIZES of those IN.")
  static void promise13_sizesOfThoseIn(Bench bench) {
    BureauCrown x = Bench.with("a99;" + Bench.times(11, "C9>a", ";") + ";" + Bench.times(13, "C1", ";"));
    bench.due("IN and OUT", x.ofSubject(2, 0), 24);
    bench.due("those IN", x.ofSubject(2, 1), 99);
    x.put(0, -1);
    bench.due("one less IN", x.ofSubject(2, 1), 90);
    bench.due("as many", x.ofSubject(2, 0), 24);
  }

  @Says(promise = 13, words = "NONE: no such ones")
  static void promise13_noSuchOnes(Bench bench) {
    BureauCrown x = Bench.with("a9;A4>a");
    int[] subjects = {-1, 16, Integer.MAX_VALUE, Integer.MIN_VALUE};
    for (int s : subjects) {
      bench.due("ofSubject(" + s + ", 0)", x.ofSubject(s, 0), -1);
      bench.due("ofSubject(" + s + ", 1)", x.ofSubject(s, 1), -1);
    }
    int[] whats = {-1, 2, Integer.MAX_VALUE, Integer.MIN_VALUE};
    for (int what : whats) {
      bench.due("ofSubject(0, " + what + ")", x.ofSubject(0, what), -1);
    }
    bench.due("a SUBJECT of no PAPERS", new BureauCrown().ofSubject(15, 0), 0);
  }

  // ---- promise 14

  @Says(promise = 14, words = "OLDEST: the PAPER IN longest (of like ones the lowest).")
  static void promise14_thePaperInLongest(Bench bench) {
    BureauCrown x = Bench.with("a9;b9;A1;B1>a;C1>a;D1>b");
    bench.due("of like ones the lowest", x.oldest(), 1);
    x.days(1);
    bench.due("still alike", x.oldest(), 1);
    x.put(1, 1);
    bench.due("2 and 3 have been IN longer", x.oldest(), 2);
    x.put(0, 0);
    x.days(1);
    bench.due("0 is IN, but not longest", x.oldest(), 2);
    x.put(2, -1);
    bench.due("3 is left", x.oldest(), 3);
    x.put(3, -1);
    bench.due("0 and 1 are alike", x.oldest(), 0);
  }

  @Says(promise = 14, words = "OLDEST; -2: none is IN")
  static void promise14_noneIsIn(Bench bench) {
    bench.due("no PAPERS", new BureauCrown().oldest(), -2);
    BureauCrown x = Bench.with("a9;A1;B1>a");
    bench.due("one IN with DAYS 0", x.oldest(), 1);
    x.put(1, -1);
    bench.due("all are OUT", x.oldest(), -2);
  }

  // ---- promise 26

  @Says(promise = 26, words = "THE SEED (0 to 65535; X, too): true")
  static void promise26_seed0To65535(Bench bench) {
    BureauCrown x = new BureauCrown();
    bench.due("seed(0)", x.seed(0), true);
    bench.due("X", x.count(7), 0);
    bench.due("seed(65535)", x.seed(65535), true);
    bench.due("X", x.count(7), 65535);
    Bench.cabinet(x, "a9");
    bench.due("seed(2)", x.seed(2), true);
    x.days(1);
    bench.due("the DRAWS go on from it", x.count(7), 25173 * 2 + 13849);
  }

  @Says(promise = 26, words = "false: no such number")
  static void promise26_noSuchNumber(Bench bench) {
    BureauCrown x = new BureauCrown();
    x.seed(4711);
    int[] none = {-1, 65536, Integer.MAX_VALUE, Integer.MIN_VALUE};
    for (int s : none) {
      bench.due("seed(" + s + ")", x.seed(s), false);
      bench.due("X stays", x.count(7), 4711);
    }
  }

  // ---- promises 27 and 28

  @Says(promise = 27, words = "KEPT: THE DAY.")
  static void promise27_keepAnswersTheDay(Bench bench) {
    BureauCrown x = new BureauCrown();
    bench.due("keep on DAY 0", x.keep(), 0);
    x.days(1);
    bench.due("keep on DAY 1", x.keep(), 1);
    go(x, 9998);
    bench.due("keep on the last", x.keep(), 9999);
    bench.due("undo", x.undo(), true);
    bench.due("THE DAY", x.count(0), 9999);
  }

  @Says(promise = 27, words = "KEPT: PAPERS' states, THE DAY, X;")
  static void promise27_whatIsKept(Bench bench) {
    BureauCrown x = Bench.with("a9;b9;A3>a;B4>b;C5", "e1(p=2);r10(p=0)");
    x.days(2);
    x.seed(77);
    String before = Bench.look(x);
    x.keep();
    bench.due("keep changes nothing", Bench.look(x), before);
    x.put(2, -1);
    x.put(0, 1);
    x.days(9);
    x.seed(5);
    Bench.rule(x, "r10(1=1)");
    x.days(1);
    x.feed(1, 2, 3, 4, 5);
    x.undo();
    bench.due("THE LAW is not KEPT", x.count(5), 1);
    bench.due("the tape is not KEPT", x.count(6), 20);
    bench.due("all else, but for RULES", withoutRules(Bench.look(x)), withoutRules(before));
  }

  /** The look without its sixth number, the RULES. */
  private static String withoutRules(String look) {
    String[] parts = look.split(" ");
    parts[5] = "";
    return String.join(" ", parts);
  }

  @Says(promise = 28, words = "UNDONE: true")
  static void promise28_undone(Bench bench) {
    BureauCrown x = Bench.with("a9;b9;A3>a;B4>b;C5", "e1(1=1);r10(1=1)");
    x.days(1);
    String before = Bench.look(x);
    x.keep();
    x.days(3);
    x.put(0, -1);
    x.put(1, 0);
    bench.due("undo", x.undo(), true);
    bench.due("as it was", Bench.look(x), before);
    x.days(2);
    bench.due("undo a second time", x.undo(), true);
    bench.due("as it was", Bench.look(x), before);
    bench.due("undo at once again", x.undo(), true);
    bench.due("as it was", Bench.look(x), before);
  }

  @Says(promise = 28, words = "false: none was KEPT")
  static void promise28_noneWasKept(Bench bench) {
    BureauCrown x = Bench.with("a9;A3>a", "r10(1=1)");
    x.days(2);
    String before = Bench.look(x);
    bench.due("undo", x.undo(), false);
    bench.due("nothing is changed", Bench.look(x), before);
    bench.due("of a new one", new BureauCrown().undo(), false);
  }

  @Says(promise = 28, words = "UNDONE: as they were KEPT last")
  static void promise28_asTheyWereKeptLast(Bench bench) {
    BureauCrown x = Bench.with("a9;A3");
    x.keep();
    x.days(1);
    x.put(0, 0);
    x.keep();
    x.put(0, -1);
    x.days(1);
    x.undo();
    bench.due("THE DAY of the last", x.count(0), 1);
    bench.due("where it was then", x.paperIs(0, 2), 0);
  }

  @Says(promise = 28, words = "(of as many PAPERS as there were then and are now:")
  static void promise28_asManyAsThereWereThenAndAreNow(Bench bench) {
    BureauCrown x = Bench.with("a9;A1>a;B1>a;C1", "r10(1=1)");
    x.days(2);
    x.keep();
    Bench.cabinet(x, "a9;A2");
    bench.due("fewer now", x.undo(), true);
    bench.due("PAPERS stay as many", x.count(2), 1);
    bench.due("0 is IN", x.paperIs(0, 2), 0);
    bench.due("with its SIZE of now", x.drawerIs(0, 1), 2);
    bench.due("DAYS", x.paperIs(0, 4), 2);
    bench.due("READ", x.paperIs(0, 3), 1);
    Bench.cabinet(x, "a9;b9;A1;B1;C1>b;D1>b;E1");
    bench.due("more now", x.undo(), true);
    bench.due("PAPERS", x.count(2), 5);
    bench.due("0 and 1 are IN a", x.drawerIs(0, 2), 3);
    bench.due("2 was OUT, 3 stays", x.drawerIs(1, 2), 8);
    bench.due("OUT", x.count(3), 4 | 16);
  }

  @Says(promise = 28, words = "all these are OUT first, then each is put back by numbers;")
  static void promise28_allAreOutFirst(Bench bench) {
    // Each lay where the other lies now: there is ROOM only if both are OUT first.
    BureauCrown x = Bench.with("a4;b4;A4>a;B4>b");
    x.keep();
    x.put(0, -1);
    x.put(1, 0);
    x.put(0, 1);
    bench.due("they have changed", x.paperIs(0, 2) * 10 + x.paperIs(1, 2), 10);
    x.undo();
    bench.due("0 is back", x.paperIs(0, 2), 0);
    bench.due("1 is back", x.paperIs(1, 2), 1);
    // In a smaller DRAWER the lower number is put back, the higher one is OUT.
    Bench.cabinet(x, "a9;A1>a;A1>a;A1>a");
    x.keep();
    Bench.cabinet(x, "a5;A3;A3;A2");
    x.undo();
    bench.due("0 and 2", x.drawerIs(0, 2), 5);
    // One that was OUT is OUT, though it is IN now.
    Bench.cabinet(x, "a9;A1");
    x.keep();
    x.put(0, 0);
    x.days(1);
    x.undo();
    bench.due("OUT", x.paperIs(0, 2), -2);
    bench.due("DAYS 0", x.paperIs(0, 4), 0);
    bench.due("FULL", x.drawerIs(0, 1), 0);
  }

  @Says(promise = 28, words = "those beyond stay as they are and take up ROOM;")
  static void promise28_thoseBeyondStay(Bench bench) {
    BureauCrown x = Bench.with("a9;A4>a;B4>a", "r10(1=1)");
    x.keep();
    Bench.cabinet(x, "a9;A4;B4;C2>a;D1");
    x.days(3);
    x.undo();
    bench.due("0 is back", x.paperIs(0, 2), 0);
    bench.due("no ROOM for 1 beside 0 and 2", x.paperIs(1, 2), -2);
    bench.due("2 stays IN", x.paperIs(2, 2), 0);
    bench.due("2 stays READ", x.paperIs(2, 3), 1);
    bench.due("2: DAYS stay", x.paperIs(2, 4), 3);
    bench.due("3 stays OUT", x.paperIs(3, 2), -2);
    bench.due("FULL", x.drawerIs(0, 1), 6);
    bench.due("THE DAY", x.count(0), 0);
  }

  @Says(promise = 28, words = "one IN a DRAWER that is not told now, or has no ROOM for it by then, is OUT, not READ, DAYS 0)")
  static void promise28_notToldNowOrNoRoom(Bench bench) {
    BureauCrown x = Bench.with("a9;b9;A4>a;B4>b;C4>a", "r10(1=1)");
    x.days(2);
    x.keep();
    Bench.cabinet(x, "a6;c9;A4;B4>c;C4");
    x.days(1);
    x.undo();
    bench.due("0 is back", x.paperIs(0, 2), 0);
    bench.due("0 is READ", x.paperIs(0, 3), 1);
    bench.due("0: DAYS", x.paperIs(0, 4), 2);
    bench.due("b is not told: 1 is OUT", x.paperIs(1, 2), -2);
    bench.due("1 is not READ", x.paperIs(1, 3), 0);
    bench.due("1: DAYS 0", x.paperIs(1, 4), 0);
    bench.due("no ROOM by then: 2 is OUT", x.paperIs(2, 2), -2);
    bench.due("2 is not READ", x.paperIs(2, 3), 0);
    bench.due("2: DAYS 0", x.paperIs(2, 4), 0);
    bench.due("FULL of c", x.drawerIs(2, 1), 0);
    // ROOM to the last will do.
    Bench.cabinet(x, "a8;b4;A4;B4;C4");
    x.undo();
    bench.due("all are back", x.count(3), 0);
    // No CABINET of now has any of them.
    Bench.cabinet(x, "c9;A1>c;B1");
    x.undo();
    bench.due("no DRAWER of then is told", x.count(3), 3);
  }

  // ---- promise 29

  private static int check(BureauCrown x, int n, int... bytes) {
    Bench.feedBytes(x, bytes);
    return x.check(n);
  }

  @Says(promise = 29, words = "CHECK: FULL of DRAWERS: right, or the first that is not so.")
  static void promise29_fullOfDrawers(Bench bench) {
    BureauCrown x = Bench.with("a9;b99;c9;A3>a;" + Bench.times(10, "B9>b", ";"));
    bench.due("right", check(x, 3, 3, 90, 0), -1);
    bench.due("the first is not", check(x, 3, 4, 90, 0), 0);
    bench.due("the second is not", check(x, 3, 3, 99, 0), 1);
    bench.due("the third is not", check(x, 3, 3, 90, 9), 2);
    bench.due("of two the first", check(x, 3, 3, 89, 1), 1);
  }

  @Says(promise = 29, words = "CHECK by the first n bytes of the tape (0 to 12;")
  static void promise29_0To12Bytes(Bench bench) {
    BureauCrown x = Bench.with("a9;l9;A3>a;B4>l");
    int[] right = {3, 255, 255, 255, 255, 255, 255, 255, 255, 255, 255, 4};
    for (int n = 0; n <= 12; n++) {
      bench.due("check(" + n + ")", check(x, n, right), -1);
    }
    right[11] = 5;
    bench.due("the twelfth is not", check(x, 12, right), 11);
    bench.due("the twelfth is not asked", check(x, 11, right), -1);
    bench.due("check(0) of what is not right", check(x, 0, 77), -1);
    bench.due("check(0) of an empty tape", new BureauCrown().check(0), -1);
  }

  @Says(promise = 29, words = "empty then;")
  static void promise29_emptyThen(Bench bench) {
    BureauCrown x = Bench.with("a9;A3>a");
    check(x, 1, 3);
    bench.due("tape behind check(1)", x.count(6), 0);
    check(x, 1, 4);
    bench.due("tape behind one that is not so", x.count(6), 0);
    check(x, 0, 3);
    bench.due("tape behind check(0)", x.count(6), 0);
  }

  @Says(promise = 29, words = "of DRAWERS not told 255)")
  static void promise29_notTold255(Bench bench) {
    BureauCrown x = Bench.with("b9");
    bench.due("255", check(x, 2, 255, 0), -1);
    bench.due("0", check(x, 2, 0, 0), 0);
    bench.due("254", check(x, 2, 254, 0), 0);
    bench.due("a told one is not 255", check(x, 2, 255, 255), 1);
    BureauCrown y = new BureauCrown();
    y.feed(-1, -1, -1, 0, 0);
    bench.due("none is told", y.check(12), -1);
  }

  @Says(promise = 29, words = "NONE: right; else the first that is not so")
  static void promise29_noneIsRight(Bench bench) {
    BureauCrown x = Bench.with("a9;A3>a");
    bench.due("right", check(x, 1, 3), BureauCrown.NONE);
    bench.due("a", check(x, 1, 2), 0);
    bench.due("b", check(x, 2, 3, 3), 1);
  }

  @Says(promise = 29, words = "-2: no such n, it has not so many (the tape stays)")
  static void promise29_noSuchN(Bench bench) {
    BureauCrown x = Bench.with("a9;A3>a");
    bench.due("check(1) of an empty tape", x.check(1), -2);
    Bench.feedBytes(x, 3, 255);
    int[] none = {-1, 13, 20, 21, Integer.MAX_VALUE, Integer.MIN_VALUE};
    for (int n : none) {
      bench.due("check(" + n + ")", x.check(n), -2);
      bench.due("the tape stays", x.count(6), 20);
    }
    bench.due("check(2)", x.check(2), -1);
  }

  // ---- promise 30

  @Says(promise = 30, words = "THE DAY (0 at first).")
  static void promise30_theDayIs0AtFirst(Bench bench) {
    bench.due("count(0)", new BureauCrown().count(0), 0);
  }

  @Says(promise = 30, words = "0 THE DAY")
  static void promise30_what0(Bench bench) {
    BureauCrown x = new BureauCrown();
    x.days(3);
    bench.due("count(0)", x.count(0), 3);
    x.tried(5, 0);
    x.shut(5);
    bench.due("days that are tried are none", x.count(0), 3);
  }

  @Says(promise = 30, words = "1 told DRAWERS (bits)")
  static void promise30_what1(Bench bench) {
    bench.due("none", Bench.with("A1").count(1), 0);
    bench.due("a and l", Bench.with("l1;a1").count(1), 1 | 1 << 11);
    bench.due("all", Bench.with("a1;b1;c1;d1;e1;f1;g1;h1;i1;j1;k1;l1").count(1), 4095);
  }

  @Says(promise = 30, words = "2 PAPERS")
  static void promise30_what2(Bench bench) {
    bench.due("none", Bench.with("a1").count(2), 0);
    bench.due("two, IN and OUT", Bench.with("a1;A1>a;B1").count(2), 2);
    bench.due("all", Bench.with(PAPERS_24).count(2), 24);
  }

  @Says(promise = 30, words = "3 OUT ones (bits)")
  static void promise30_what3(Bench bench) {
    bench.due("0 and 2", Bench.with("a1;A1;B1>a;C1").count(3), 5);
    bench.due("all", Bench.with(PAPERS_24).count(3), 0xffffff);
    bench.due("none", Bench.with("a1;B1>a").count(3), 0);
  }

  @Says(promise = 30, words = "4 READ ones (bits)")
  static void promise30_what4(Bench bench) {
    BureauCrown x = Bench.with("a99;" + Bench.times(24, "A1>a", ";"), "r10(p=0|p=23)");
    bench.due("none yet", x.count(4), 0);
    x.days(1);
    bench.due("0 and 23", x.count(4), 1 | 1 << 23);
  }

  @Says(promise = 30, words = "KEYHOLE: PAPERS READ (bits).")
  static void promise30_keyhole(Bench bench) {
    BureauCrown x = Bench.with("a9;A1>a;B1>a;C1", "r10(1=1)");
    x.days(1);
    bench.due("0 and 1", x.count(4), 3);
    x.put(0, -1);
    bench.due("one taken OUT is not READ", x.count(4), 2);
  }

  @Says(promise = 30, words = "5 RULES")
  static void promise30_what5(Bench bench) {
    bench.due("two", Bench.with("a9", "r1(1=1);x(1=1)").count(5), 2);
    bench.due("16", Bench.with("a9", Bench.times(16, "x(1=1)", ";")).count(5), 16);
  }

  @Says(promise = 30, words = "6 bytes of the tape")
  static void promise30_what6(Bench bench) {
    BureauCrown x = new BureauCrown();
    bench.due("none", x.count(6), 0);
    Bench.feedText(x, Bench.times(260, "a", ""));
    bench.due("260", x.count(6), 260);
  }

  @Says(promise = 30, words = "7 X")
  static void promise30_what7(Bench bench) {
    BureauCrown x = Bench.with("a9");
    bench.due("1 at first", x.count(7), 1);
    x.tried(5, 0);
    bench.due("DRAWS that are tried are none", x.count(7), 1);
    x.days(1);
    bench.due("behind a DRAW", x.count(7), 39022);
  }

  @Says(promise = 30, words = "8 FULL of all")
  static void promise30_what8(Bench bench) {
    bench.due("of a and l", Bench.with("a9;l9;A4>a;B5>l;C6").count(8), 9);
    bench.due("none is IN", Bench.with("a9;A4").count(8), 0);
  }

  @Says(promise = 30, words = "9 ROOM of all")
  static void promise30_what9(Bench bench) {
    bench.due("of a and l", Bench.with("a9;l99;A4>a").count(9), 108);
    bench.due("of twelve", Bench.with("a99;b99;c99;d99;e99;f99;g99;h99;i99;j99;k99;l99").count(9), 1188);
  }

  @Says(promise = 30, words = "NONE for others")
  static void promise30_noneForOthers(Bench bench) {
    BureauCrown x = Bench.with("a9;A4>a", "r10(1=1)");
    int[] whats = {-1, 10, Integer.MAX_VALUE, Integer.MIN_VALUE};
    for (int what : whats) {
      bench.due("count(" + what + ")", x.count(what), -1);
    }
  }
}
